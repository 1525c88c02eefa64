/-! soundness: what the law holds of the forge between calls -/
def hN : Nat → Int32
  | 0 => 1
  | _ + 1 => 0
theorem opt_cases {α : Type} (o : Option α) : o = none ∨ ∃ x, o = some x := by
  cases o with
  | none => exact Or.inl rfl
  | some x => exact Or.inr ⟨x, rfl⟩
section SND
variable {G : hG} {h : hp} {A : aT} {σ : sT} {ofr : Nat → Nat} {N p : Nat}
theorem k_cho0N (HW : WS G h A σ) {p q : Nat} (hp : p < npk σ) (hq : q < npk σ) (hs : srS σ p = none) : PMet G ML_chosen 14 3 18 [.ref (A 0 0), .int (nI p), .int (nI q), .int 0] h (QL G A σ (.int (-1002))) noX := by
  have z := k_cho0 HW hp hq
  rw [aCho_n hs] at z
  exact z
theorem k_cho1N (HW : WS G h A σ) (HJ : J σ ofr N) {p q : Nat} (hp : p < npk σ) (hq : q < npk σ) (hs : srS σ p = none) : PMet G ML_chosen 14 3 18 [.ref (A 0 0), .int (nI p), .int (nI q), .int 1] h (QL G A σ (.int (-1002))) noX := by
  have z := k_cho1 HW HJ hp hq
  rw [aCho_n hs] at z
  exact z
theorem k_cho0S (HW : WS G h A σ) {p q : Nat} (hp : p < npk σ) (hq : q < npk σ) {g : Nat → Option Nat} (hs : srS σ p = some g) : PMet G ML_chosen 14 3 18 [.ref (A 0 0), .int (nI p), .int (nI q), .int 0] h (QL G A σ (.int (vG σ (g q)))) noX := by
  have z := k_cho0 HW hp hq
  rw [aCho_s hs] at z
  exact z
theorem k_cho1S (HW : WS G h A σ) (HJ : J σ ofr N) {p q : Nat} (hp : p < npk σ) (hq : q < npk σ) {g : Nat → Option Nat} (hs : srS σ p = some g) : PMet G ML_chosen 14 3 18 [.ref (A 0 0), .int (nI p), .int (nI q), .int 1] h (QL G A σ (.int (vG σ (g q)))) noX := by
  have z := k_cho1 HW HJ hp hq
  rw [aCho_s hs] at z
  exact z
theorem k_rel1x (HW : WS G h A σ) (HJ : J σ ofr N) {x q : Nat} {o : Option Nat} (ho : o = some x) (he : ofr x = q) (hx : x < nrl σ) : PMet G ML_release 7 2 12 [.ref (A 0 0), .int (nI q), .int (vG σ o), .int 1] h (QL G A σ (.int (aSt σ x))) noX := by
  subst ho
  subst he
  exact k_rel1 HW HJ hx
theorem cho_nn (HW : WS G h A σ) (HJ : J σ ofr N) (hp : p < npk σ) {g : Nat → Option Nat} (hs : srS σ p = some g) (q : Nat) : ¬ vG σ (g q) < 0 := by
  obtain ⟨w, a, b, -⟩ := cho_nat HW HJ hp hs q
  rw [b]
  exact nI_nn (by omega)
theorem cho_hi (HW : WS G h A σ) (HJ : J σ ofr N) (hp : p < npk σ) {g : Nat → Option Nat} (hs : srS σ p = some g) {q : Nat} (hq : ¬ nI q < nI p) (hq6 : q < npk σ) : ¬ 0 < vG σ (g q) := by
  have h6 := HW.n6
  rcases opt_cases (g q) with e | ⟨x, e⟩
  · rw [e]; exact (by decide : ¬ (0 : Int32) < 0)
  · exact absurd ((nI_ltI (by omega) (by omega)).mpr (pick HW HJ hp hs e).1) hq
theorem cho_x (HW : WS G h A σ) (HJ : J σ ofr N) (hp : p < npk σ) {g : Nat → Option Nat} (hs : srS σ p = some g) {q : Nat} (hv : ¬ vG σ (g q) ≤ 0) : ∃ x, g q = some x ∧ ofr x = q ∧ x < nrl σ := by
  rcases opt_cases (g q) with e | ⟨x, e⟩
  · rw [e] at hv; exact absurd (by decide : (0 : Int32) ≤ 0) hv
  · exact ⟨x, e, (pick HW HJ hp hs e).2⟩
theorem lk_nn (HW : WS G h A σ) (HJ : J σ ofr N) {r : Nat} (hr : r < nrl σ) (q : Nat) : ¬ vG σ (σ.2.2 45 r q) < 0 := by
  obtain ⟨w, a, b, -⟩ := ver_nat HJ (o := σ.2.2 45 r q) (fun x hx => HW.p45 hr q x hx)
  rw [b]
  exact nI_nn (by omega)
theorem lk_pos (HW : WS G h A σ) (HJ : J σ ofr N) {r q x : Nat} (hr : r < nrl σ) (hl : σ.2.2 45 r q = some x) : ¬ vG σ (σ.2.2 45 r q) ≤ 0 := by
  obtain ⟨w, a, b, c⟩ := ver_nat HJ (o := σ.2.2 45 r q) (fun x hx => HW.p45 hr q x hx)
  rw [b]
  have hw : w ≠ 0 := fun z => by rw [c.mp z] at hl; cases hl
  exact fun z => by have := (nI_leI (a := w) (b := 0) (by omega) (by omega)).mp z; omega
theorem lk_non {r q : Nat} (hl : σ.2.2 45 r q = none) : vG σ (σ.2.2 45 r q) ≤ 0 := by
  rw [hl]; exact (by decide : (0 : Int32) ≤ 0)
theorem lk_hi (HW : WS G h A σ) (HJ : J σ ofr N) {r q : Nat} (hr : r < nrl σ) (hq6 : q < npk σ) (hq : ¬ nI q < nI (ofr r)) : vG σ (σ.2.2 45 r q) ≤ 0 := by
  have h6 := HW.n6
  have hp := HJ.2.2.1.1 r hr
  rcases opt_cases (σ.2.2 45 r q) with e | ⟨x, e⟩
  · exact lk_non e
  · exact absurd ((nI_ltI (by omega) (by omega)).mpr ((HJ.2.2.2.1.1 r hr).1 q x e).2) hq
theorem k_fkm (HW : WS G h A σ) (HJ : J σ ofr N) {f : Nat} (hf : f < nts σ) (e : aFk σ = nI f) : PMet G ML_tests 6 1 6 [.ref (A 0 0), .int (aFk σ), .int 0] h (QL G A σ (.int (aFy σ f))) noX := by
  rw [e]
  exact k_ts0 HW HJ hf
theorem ne_or0 {k x : Nat} (hb : b01 (σ.1 40 x 2)) (hk : ¬ σ.1 40 k 2 = 1) : ¬ k = x ∨ σ.1 40 x 2 = 0 := by
  by_cases z : k = x
  · subst z
    exact hb.elim Or.inr (fun q => absurd q hk)
  · exact Or.inl z
theorem ne_n {n : Nat} (h : ¬ n = 0) (h2 : n ≤ 20) : ¬ nI n = 0 := fun z => h (nI_inj (b := 0) (by omega) (by omega) z)
end SND
set_option maxHeartbeats 4000000 in
set_option maxRecDepth 100000 in
theorem c_sound (G : hG) (h : hp) {A : aT} {σ : sT} {ofr : Nat → Nat} {N : Nat} (HW : WS G h A σ) (HJ : J σ ofr N) (HD : JD σ ofr (nrl σ)) : PMet G ML_isSound 16 940 5640 [.ref (A 0 0), .ref (A 60 0), .int (nI (nrl σ))] h (QL G A σ (.int 1)) noX := by
  refine PMet.of (by decide +kernel) (Nat.le_of_ble_eq_true rfl) (fun d hd => ?_)
  refine PW.sub (L2 := [(0, Value.ref (A 0 0)), (1, Value.ref (A 60 0)), (2, Value.int (nI (nrl σ)))]) [0, 1, 2] rfl ?_
  have h6 : npk σ ≤ 6 := HW.n6
  have h20 : nrl σ ≤ 20 := HW.n20
  have h8 : nts σ ≤ 8 := HW.n8
  refine pw_aload_n (pc2 := 1) dL_isSound_0 rfl rfl 0 rfl (by first | exact rf_ref _ | exact rf_opt _ | exact rf_nul) ?_
  refine PW.widen (kc' := 933 + 7) (ks' := 5598 + 42) (by omega) (by omega) ?_
  refine pw_lookS (kc := 933) (ks := 5598) (pc2 := 4) (c_packs G _ HW HJ) cs_L_118 rfl dL_isSound_1 rfl (by omega) rfl (by first | decide | simp [cat_rf, Value.category]) (fun h1 W1 => ?_)
  refine pw_istore_n (pc2 := 5) (L2 := [(3, Value.int (nI (npk σ))), (0, Value.ref (A 0 0)), (1, Value.ref (A 60 0)), (2, Value.int (nI (nrl σ)))]) dL_isSound_4 rfl rfl (by decide) rfl ?_
  refine pw_iconst (pc2 := 6) (v := 0) dL_isSound_5 rfl (by decide) ?_
  refine pw_istore (pc2 := 8) (L2 := [(4, Value.int 0), (3, Value.int (nI (npk σ))), (0, Value.ref (A 0 0)), (1, Value.ref (A 60 0)), (2, Value.int (nI (nrl σ)))]) dL_isSound_6 rfl (by decide) rfl ?_
  have lp1 : ∀ (k1 i : Nat) (h1 : hp), i + k1 = npk σ → WS G h1 A σ → PW G ML_isSound d noA (E0 G (QL G A σ (.int 1)) noX) (k1 * 69 + 510) (k1 * 414 + 3060) 8 [(4, Value.int (nI i)), (3, Value.int (nI (npk σ))), (2, Value.int (nI (nrl σ))), (1, Value.ref (A 60 0)), (0, Value.ref (A 0 0))] [] h1 := by
    intro k1
    induction k1 with
    | zero =>
      intro i h1 hik1 W1
      have hi1 : npk σ = i := by omega
      subst hi1
      refine PW.widen (kc' := 510) (ks' := 3060) (by omega) (by omega) ?_
      refine pw_iload (pc2 := 10) dL_isSound_8 rfl 0 rfl ?_
      refine pw_iload_n (pc2 := 11) dL_isSound_10 rfl rfl 1 rfl ?_
      refine pw_icmp_ge (tgt := 180) (pc2 := 14) dL_isSound_11 (by decide) rfl (fun _ => ?_) (fun c11 => by exact absurd (Int32.le_refl _) c11)
      refine pw_iconst (pc2 := 181) (v := 0) dL_isSound_180 rfl (by decide) ?_
      refine pw_istore (pc2 := 183) (L2 := [(4, Value.int 0), (3, Value.int (nI (npk σ))), (2, Value.int (nI (nrl σ))), (1, Value.ref (A 60 0)), (0, Value.ref (A 0 0))]) dL_isSound_181 rfl (by decide) rfl ?_
      refine pw_iconst (pc2 := 184) (v := 0) dL_isSound_183 rfl (by decide) ?_
      refine pw_istore (pc2 := 186) (L2 := [(5, Value.int 0), (4, Value.int 0), (3, Value.int (nI (npk σ))), (2, Value.int (nI (nrl σ))), (1, Value.ref (A 60 0)), (0, Value.ref (A 0 0))]) dL_isSound_184 rfl (by decide) rfl ?_
      have lp3 : ∀ (k3 r : Nat) (h3 : hp), r + k3 = nrl σ → WS G h3 A σ → PW G ML_isSound d noA (E0 G (QL G A σ (.int 1)) noX) (k3 * 20 + 110) (k3 * 120 + 660) 186 [(5, Value.int (nI r)), (4, Value.int (gdN σ r)), (3, Value.int (nI (npk σ))), (2, Value.int (nI (nrl σ))), (1, Value.ref (A 60 0)), (0, Value.ref (A 0 0))] [] h3 := by
        intro k3
        induction k3 with
        | zero =>
          intro r h3 hik3 W3
          have hi3 : nrl σ = r := by omega
          subst hi3
          refine PW.widen (kc' := 110) (ks' := 660) (by omega) (by omega) ?_
          refine pw_iload (pc2 := 188) dL_isSound_186 rfl 0 rfl ?_
          refine pw_iload_n (pc2 := 189) dL_isSound_188 rfl rfl 3 rfl ?_
          refine pw_icmp_ge (tgt := 404) (pc2 := 192) dL_isSound_189 (by decide) rfl (fun _ => ?_) (fun c189 => by exact absurd (Int32.le_refl _) c189)
          refine pw_aload_n (pc2 := 405) dL_isSound_404 rfl rfl 5 rfl (by first | exact rf_ref _ | exact rf_opt _ | exact rf_nul) ?_
          refine PW.widen (kc' := 109 + 1) (ks' := 654 + 6) (by omega) (by omega) ?_
          refine pw_lookS (kc := 109) (ks := 654) (pc2 := 408) (k_flk W3 HJ) cs_L_127 rfl dL_isSound_405 rfl (by omega) rfl (by first | decide | simp [cat_rf, Value.category]) (fun h2 W2 => ?_)
          refine pw_istore (pc2 := 410) (L2 := [(5, Value.int (aFk σ)), (4, Value.int (gdN σ (nrl σ))), (3, Value.int (nI (npk σ))), (2, Value.int (nI (nrl σ))), (1, Value.ref (A 60 0)), (0, Value.ref (A 0 0))]) dL_isSound_408 rfl (by decide) rfl ?_
          refine pw_iconst (pc2 := 411) (v := 0) dL_isSound_410 rfl (by decide) ?_
          refine pw_istore (pc2 := 413) (L2 := [(6, Value.int 0), (5, Value.int (aFk σ)), (4, Value.int (gdN σ (nrl σ))), (3, Value.int (nI (npk σ))), (2, Value.int (nI (nrl σ))), (1, Value.ref (A 60 0)), (0, Value.ref (A 0 0))]) dL_isSound_411 rfl (by decide) rfl ?_
          have lp6 : ∀ (k6 t : Nat) (h6 : hp), t + k6 = nts σ → WS G h6 A σ → PW G ML_isSound d noA (E0 G (QL G A σ (.int 1)) noX) (k6 * 12 + 11) (k6 * 72 + 66) 413 [(6, Value.int (nI t)), (5, Value.int (aFk σ)), (4, Value.int (gdN σ (nrl σ))), (3, Value.int (nI (npk σ))), (2, Value.int (nI (nrl σ))), (1, Value.ref (A 60 0)), (0, Value.ref (A 0 0))] [] h6 := by
            intro k6
            induction k6 with
            | zero =>
              intro t h6 hik6 W6
              have hi6 : nts σ = t := by omega
              subst hi6
              refine PW.widen (kc' := 11) (ks' := 66) (by omega) (by omega) ?_
              refine pw_iload (pc2 := 415) dL_isSound_413 rfl 0 rfl ?_
              refine pw_aload_n (pc2 := 416) dL_isSound_415 rfl rfl 6 rfl (by first | exact rf_ref _ | exact rf_opt _ | exact rf_nul) ?_
              refine PW.widen (kc' := 2 + 9) (ks' := 12 + 54) (by omega) (by omega) ?_
              refine pw_lookS (kc := 2) (ks := 12) (pc2 := 419) (c_many G _ W6 HJ) cs_L_156 rfl dL_isSound_416 rfl (by omega) rfl (by first | decide | simp [cat_rf, Value.category]) (fun h3 W3 => ?_)
              refine pw_icmp_ge (tgt := 459) (pc2 := 422) dL_isSound_419 (by decide) rfl (fun _ => ?_) (fun c419 => by exact absurd (Int32.le_refl _) c419)
              by_cases hn : nrl σ = 0
              · skip
                refine pw_aload_n (pc2 := 460) dL_isSound_459 rfl rfl 6 rfl (by first | exact rf_ref _ | exact rf_opt _ | exact rf_nul) ?_
                refine PW.widen (kc' := 1 + 1) (ks' := 6 + 6) (by omega) (by omega) ?_
                refine pw_lookS (kc := 1) (ks := 6) (pc2 := 463) (k_good W3) cs_L_131 rfl dL_isSound_460 rfl (by omega) rfl (by first | decide | simp [cat_rf, Value.category]) (fun h4 W4 => ?_)
                refine pw_ldcF (pc2 := 465) kcF_102 dL_isSound_463 rfl ?_
                refine pw_fcmp (pc2 := 466) dL_isSound_465 rfl ?_
                refine pw_if_ne (tgt := 473) (pc2 := 469) dL_isSound_466 (by decide) rfl (fun c466 => by exact absurd (by unfold aGd; rw [if_pos hn]; exact fl_one) c466) (fun _ => ?_)
                refine pw_iconst (pc2 := 470) (v := 1) dL_isSound_469 rfl (by decide) ?_
                refine pw_goto (tgt := 474) dL_isSound_470 (by decide) ?_
                refine pw_iload_n (pc2 := 475) dL_isSound_474 rfl rfl 4 rfl ?_
                refine pw_if_ne (tgt := 482) (pc2 := 478) dL_isSound_475 (by decide) rfl (fun c475 => by exact absurd (by rw [hn]; rfl) c475) (fun _ => ?_)
                refine pw_iconst (pc2 := 479) (v := 1) dL_isSound_478 rfl (by decide) ?_
                refine pw_goto (tgt := 483) dL_isSound_479 (by decide) ?_
                refine pw_icmp_ne (tgt := 508) (pc2 := 486) dL_isSound_483 (by decide) rfl (fun c483 => by exact absurd (by decide) c483) (fun _ => ?_)
                refine pw_iload_n (pc2 := 487) dL_isSound_486 rfl rfl 4 rfl ?_
                refine pw_if_eq (tgt := 504) (pc2 := 490) dL_isSound_487 (by decide) rfl (fun _ => ?_) (fun c487 => by exact absurd (by rw [hn]; rfl) c487)
                refine pw_iconst (pc2 := 505) (v := 1) dL_isSound_504 rfl (by decide) ?_
                refine pw_goto (tgt := 509) dL_isSound_505 (by decide) ?_
                refine pw_iret dL_isSound_509 rfl (by first | rfl | assumption | simp [narrow]) ?_
                exact ⟨rfl, W4⟩
              · skip
                refine pw_aload_n (pc2 := 460) dL_isSound_459 rfl rfl 6 rfl (by first | exact rf_ref _ | exact rf_opt _ | exact rf_nul) ?_
                refine PW.widen (kc' := 1 + 1) (ks' := 6 + 6) (by omega) (by omega) ?_
                refine pw_lookS (kc := 1) (ks := 6) (pc2 := 463) (k_good W3) cs_L_131 rfl dL_isSound_460 rfl (by omega) rfl (by first | decide | simp [cat_rf, Value.category]) (fun h5 W5 => ?_)
                refine pw_ldcF (pc2 := 465) kcF_102 dL_isSound_463 rfl ?_
                refine pw_fcmp (pc2 := 466) dL_isSound_465 rfl ?_
                refine pw_if_ne (tgt := 473) (pc2 := 469) dL_isSound_466 (by decide) rfl (fun _ => ?_) (fun c466 => by exact absurd c466 ((gd_fl HW hn).2.1))
                refine pw_iconst (pc2 := 474) (v := 0) dL_isSound_473 rfl (by decide) ?_
                refine pw_iload_n (pc2 := 475) dL_isSound_474 rfl rfl 4 rfl ?_
                refine pw_if_ne (tgt := 482) (pc2 := 478) dL_isSound_475 (by decide) rfl (fun _ => ?_) (fun c475 => by exact absurd c475 (ne_n hn h20))
                refine pw_iconst (pc2 := 483) (v := 0) dL_isSound_482 rfl (by decide) ?_
                refine pw_icmp_ne (tgt := 508) (pc2 := 486) dL_isSound_483 (by decide) rfl (fun c483 => by exact absurd (by decide) c483) (fun _ => ?_)
                refine pw_iload_n (pc2 := 487) dL_isSound_486 rfl rfl 4 rfl ?_
                refine pw_if_eq (tgt := 504) (pc2 := 490) dL_isSound_487 (by decide) rfl (fun c487 => by exact absurd c487 (ne_n hn h20)) (fun _ => ?_)
                refine pw_aload_n (pc2 := 491) dL_isSound_490 rfl rfl 6 rfl (by first | exact rf_ref _ | exact rf_opt _ | exact rf_nul) ?_
                refine PW.widen (kc' := 0 + 1) (ks' := 0 + 6) (by omega) (by omega) ?_
                refine pw_lookS (kc := 0) (ks := 0) (pc2 := 494) (k_good W5) cs_L_131 rfl dL_isSound_491 rfl (by omega) rfl (by first | decide | simp [cat_rf, Value.category]) (fun h6 W6 => ?_)
                refine pw_iload (pc2 := 496) dL_isSound_494 rfl 2 rfl ?_
                refine pw_i2f (pc2 := 497) dL_isSound_496 rfl ?_
                refine pw_iload_n (pc2 := 498) dL_isSound_497 rfl rfl 4 rfl ?_
                refine pw_i2f (pc2 := 499) dL_isSound_498 rfl ?_
                refine pw_fdiv (pc2 := 500) dL_isSound_499 rfl (gd_fl HW hn).2.2.2 ?_
                refine pw_fcmp (pc2 := 501) dL_isSound_500 rfl ?_
                refine pw_if_ne (tgt := 508) (pc2 := 504) dL_isSound_501 (by decide) rfl (fun c501 => by exact absurd ((gd_fl HW hn).2.2.1) c501) (fun _ => ?_)
                refine pw_iconst (pc2 := 505) (v := 1) dL_isSound_504 rfl (by decide) ?_
                refine pw_goto (tgt := 509) dL_isSound_505 (by decide) ?_
                refine pw_iret dL_isSound_509 rfl (by first | rfl | assumption | simp [narrow]) ?_
                exact ⟨rfl, W6⟩
            | succ k6 ih6 =>
              intro t h6 hik6 W6
              have hi6 : t < nts σ := by omega
              refine PW.widen (kc' := k6 * 12 + 23) (ks' := k6 * 72 + 138) (by omega) (by omega) ?_
              obtain ⟨f, hf1, hf2, hf3⟩ := fk_lt HJ (Nat.lt_of_le_of_lt (Nat.zero_le t) hi6)
              refine pw_iload (pc2 := 415) dL_isSound_413 rfl 0 rfl ?_
              refine pw_aload_n (pc2 := 416) dL_isSound_415 rfl rfl 6 rfl (by first | exact rf_ref _ | exact rf_opt _ | exact rf_nul) ?_
              refine PW.widen (kc' := k6 * 12 + 14 + 9) (ks' := k6 * 72 + 84 + 54) (by omega) (by omega) ?_
              refine pw_lookS (kc := k6 * 12 + 14) (ks := k6 * 72 + 84) (pc2 := 419) (c_many G _ W6 HJ) cs_L_156 rfl dL_isSound_416 rfl (by omega) rfl (by first | decide | simp [cat_rf, Value.category]) (fun h7 W7 => ?_)
              refine pw_icmp_ge (tgt := 459) (pc2 := 422) dL_isSound_419 (by decide) rfl (fun c419 => by exact absurd c419 (fun z => by have := (nI_leI (a := nts σ) (b := t) (by omega) (by omega)).mp z; omega)) (fun _ => ?_)
              refine pw_aload_n (pc2 := 423) dL_isSound_422 rfl rfl 6 rfl (by first | exact rf_ref _ | exact rf_opt _ | exact rf_nul) ?_
              refine pw_iload (pc2 := 425) dL_isSound_423 rfl 0 rfl ?_
              refine pw_iconst (pc2 := 426) (v := 0) dL_isSound_425 rfl (by decide) ?_
              refine PW.widen (kc' := k6 * 12 + 13 + 1) (ks' := k6 * 72 + 78 + 6) (by omega) (by omega) ?_
              refine pw_lookS (kc := k6 * 12 + 13) (ks := k6 * 72 + 78) (pc2 := 429) (k_ts0 W7 HJ hi6) cs_L_115 rfl dL_isSound_426 rfl (by omega) rfl (by first | decide | simp [cat_rf, Value.category]) (fun h8 W8 => ?_)
              refine pw_bipush (pc2 := 431) (v := 7) dL_isSound_429 rfl (by decide) ?_
              refine pw_icmp_gt (tgt := 451) (pc2 := 434) dL_isSound_431 (by decide) rfl (fun c431 => by exact absurd c431 (fy_7 HJ hi6)) (fun _ => ?_)
              refine pw_aload_n (pc2 := 435) dL_isSound_434 rfl rfl 6 rfl (by first | exact rf_ref _ | exact rf_opt _ | exact rf_nul) ?_
              refine pw_iload (pc2 := 437) dL_isSound_435 rfl 0 rfl ?_
              refine pw_iconst (pc2 := 438) (v := 0) dL_isSound_437 rfl (by decide) ?_
              refine PW.widen (kc' := k6 * 12 + 12 + 1) (ks' := k6 * 72 + 72 + 6) (by omega) (by omega) ?_
              refine pw_lookS (kc := k6 * 12 + 12) (ks := k6 * 72 + 72) (pc2 := 441) (k_ts0 W8 HJ hi6) cs_L_115 rfl dL_isSound_438 rfl (by omega) rfl (by first | decide | simp [cat_rf, Value.category]) (fun h9 W9 => ?_)
              refine pw_aload_n (pc2 := 442) dL_isSound_441 rfl rfl 6 rfl (by first | exact rf_ref _ | exact rf_opt _ | exact rf_nul) ?_
              refine pw_iload (pc2 := 444) dL_isSound_442 rfl 1 rfl ?_
              refine pw_iconst (pc2 := 445) (v := 0) dL_isSound_444 rfl (by decide) ?_
              refine PW.widen (kc' := k6 * 12 + 11 + 1) (ks' := k6 * 72 + 66 + 6) (by omega) (by omega) ?_
              refine pw_lookS (kc := k6 * 12 + 11) (ks := k6 * 72 + 66) (pc2 := 448) (k_fkm W9 HJ hf1 hf2) cs_L_115 rfl dL_isSound_445 rfl (by omega) rfl (by first | decide | simp [cat_rf, Value.category]) (fun h10 W10 => ?_)
              refine pw_icmp_le (tgt := 453) (pc2 := 451) dL_isSound_448 (by decide) rfl (fun _ => ?_) (fun c448 => by exact absurd (hf3 t hi6) c448)
              refine pw_iinc (pc2 := 456) (v := nI (t + 1)) (L2 := [(6, Value.int (nI (t + 1))), (5, Value.int (aFk σ)), (4, Value.int (gdN σ (nrl σ))), (3, Value.int (nI (npk σ))), (2, Value.int (nI (nrl σ))), (1, Value.ref (A 60 0)), (0, Value.ref (A 0 0))]) dL_isSound_453 rfl 0 rfl (by show nI _ + 1 = nI _; exact nI_1 _) (by decide) rfl ?_
              refine pw_goto (tgt := 413) dL_isSound_456 (by decide) ?_
              refine PW.sub (L2 := [(6, Value.int (nI (t + 1))), (5, Value.int (aFk σ)), (4, Value.int (gdN σ (nrl σ))), (3, Value.int (nI (npk σ))), (2, Value.int (nI (nrl σ))), (1, Value.ref (A 60 0)), (0, Value.ref (A 0 0))]) [0, 1, 2, 3, 4, 5, 6] rfl ?_
              refine PW.widen (kc' := k6 * 12 + 11) (ks' := k6 * 72 + 66) (by omega) (by omega) ?_
              exact ih6 (t + 1) h10 (by omega) W10
          refine PW.sub (L2 := [(6, Value.int 0), (5, Value.int (aFk σ)), (4, Value.int (gdN σ (nrl σ))), (3, Value.int (nI (npk σ))), (2, Value.int (nI (nrl σ))), (1, Value.ref (A 60 0)), (0, Value.ref (A 0 0))]) [0, 1, 2, 3, 4, 5, 6] rfl ?_
          refine PW.widen (kc' := (nts σ - 0) * 12 + 11) (ks' := (nts σ - 0) * 72 + 66) (by omega) (by omega) ?_
          exact lp6 (nts σ - 0) 0 h2 (by omega) W2
        | succ k3 ih3 =>
          intro r h3 hik3 W3
          have hi3 : r < nrl σ := by omega
          refine PW.widen (kc' := k3 * 20 + 130) (ks' := k3 * 120 + 780) (by omega) (by omega) ?_
          refine pw_iload (pc2 := 188) dL_isSound_186 rfl 0 rfl ?_
          refine pw_iload_n (pc2 := 189) dL_isSound_188 rfl rfl 3 rfl ?_
          refine pw_icmp_ge (tgt := 404) (pc2 := 192) dL_isSound_189 (by decide) rfl (fun c189 => by exact absurd c189 (fun z => by have := (nI_leI (a := nrl σ) (b := r) (by omega) (by omega)).mp z; omega)) (fun _ => ?_)
          refine pw_aload_n (pc2 := 193) dL_isSound_192 rfl rfl 5 rfl (by first | exact rf_ref _ | exact rf_opt _ | exact rf_nul) ?_
          refine pw_aload_n (pc2 := 194) dL_isSound_193 rfl rfl 4 rfl (by first | exact rf_ref _ | exact rf_opt _ | exact rf_nul) ?_
          refine pw_iload (pc2 := 196) dL_isSound_194 rfl 0 rfl ?_
          refine pw_aaldN (pc2 := 197) 6 rfl rfl W3.c60 (i := r) (by first | assumption | omega) (by omega) dL_isSound_196 rfl ?_
          refine pw_topV (rowv (by first | assumption | omega)) ?_
          refine pw_iconst (pc2 := 198) (v := 0) dL_isSound_197 rfl (by decide) ?_
          refine pw_ialdN (pc2 := 199) (W3.c61 (by omega)) (i := 0) (by first | assumption | omega) (by omega) dL_isSound_198 rfl ?_
          refine pw_topE (y := nI (ofr r)) ((HD r hi3).1) ?_
          refine pw_aload_n (pc2 := 200) dL_isSound_199 rfl rfl 4 rfl (by first | exact rf_ref _ | exact rf_opt _ | exact rf_nul) ?_
          refine pw_iload (pc2 := 202) dL_isSound_200 rfl 0 rfl ?_
          refine pw_aaldN (pc2 := 203) 6 rfl rfl W3.c60 (i := r) (by first | assumption | omega) (by omega) dL_isSound_202 rfl ?_
          refine pw_topV (rowv (by first | assumption | omega)) ?_
          refine pw_iconst (pc2 := 204) (v := 1) dL_isSound_203 rfl (by decide) ?_
          refine pw_ialdN (pc2 := 205) (W3.c61 (by omega)) (i := 1) (by first | assumption | omega) (by omega) dL_isSound_204 rfl ?_
          refine pw_topE (y := σ.1 40 r 0) ((HD r hi3).2.1) ?_
          refine pw_iconst (pc2 := 206) (v := 1) dL_isSound_205 rfl (by decide) ?_
          refine PW.widen (kc' := k3 * 20 + 128 + 2) (ks' := k3 * 120 + 768 + 12) (by omega) (by omega) ?_
          refine pw_lookS (kc := k3 * 20 + 128) (ks := k3 * 120 + 768) (pc2 := 209) (k_rel1 W3 HJ hi3) cs_L_152 rfl dL_isSound_206 rfl (by omega) rfl (by first | decide | simp [cat_rf, Value.category]) (fun h12 W12 => ?_)
          by_cases hst : stl σ r
          · refine pw_topE (y := 1) (aSt_t hst) ?_
            refine pw_iconst (pc2 := 210) (v := 1) dL_isSound_209 rfl (by decide) ?_
            refine pw_icmp_ne (tgt := 217) (pc2 := 213) dL_isSound_210 (by decide) rfl (fun c210 => by exact absurd (by decide) c210) (fun _ => ?_)
            refine pw_iconst (pc2 := 214) (v := 1) dL_isSound_213 rfl (by decide) ?_
            refine pw_goto (tgt := 218) dL_isSound_214 (by decide) ?_
            refine pw_istore (pc2 := 220) (L2 := [(6, Value.int 1), (5, Value.int (nI r)), (4, Value.int (gdN σ r)), (3, Value.int (nI (npk σ))), (2, Value.int (nI (nrl σ))), (1, Value.ref (A 60 0)), (0, Value.ref (A 0 0))]) dL_isSound_218 rfl (by decide) rfl ?_
            refine pw_iload (pc2 := 222) dL_isSound_220 rfl 2 rfl ?_
            refine pw_aload_n (pc2 := 223) dL_isSound_222 rfl rfl 5 rfl (by first | exact rf_ref _ | exact rf_opt _ | exact rf_nul) ?_
            refine pw_iload (pc2 := 225) dL_isSound_223 rfl 1 rfl ?_
            refine pw_aaldN (pc2 := 226) 6 rfl rfl W12.c60 (i := r) (by first | assumption | omega) (by omega) dL_isSound_225 rfl ?_
            refine pw_topV (rowv (by first | assumption | omega)) ?_
            refine pw_iconst (pc2 := 227) (v := 2) dL_isSound_226 rfl (by decide) ?_
            refine pw_ialdN (pc2 := 228) (W12.c61 (by omega)) (i := 2) (by first | assumption | omega) (by omega) dL_isSound_227 rfl ?_
            refine pw_topE (y := σ.1 40 r 2) ((HD r hi3).2.2) ?_
            refine pw_if_ne (tgt := 240) (pc2 := 231) dL_isSound_228 (by decide) rfl (fun c228 => by exact absurd (hst.1) c228) (fun _ => ?_)
            refine pw_iload (pc2 := 233) dL_isSound_231 rfl 0 rfl ?_
            refine pw_if_ne (tgt := 240) (pc2 := 236) dL_isSound_233 (by decide) rfl (fun _ => ?_) (fun c233 => by exact absurd c233 (by decide))
            refine pw_iconst (pc2 := 241) (v := 0) dL_isSound_240 rfl (by decide) ?_
            refine pw_iadd (pc2 := 242) dL_isSound_241 rfl ?_
            refine pw_topE (y := gdN σ (r + 1)) ((Int32.add_zero _).trans (dit_f (fun z => z.2 hst)).symm) ?_
            refine pw_istore (pc2 := 244) (L2 := [(4, Value.int (gdN σ (r + 1))), (6, Value.int 1), (5, Value.int (nI r)), (3, Value.int (nI (npk σ))), (2, Value.int (nI (nrl σ))), (1, Value.ref (A 60 0)), (0, Value.ref (A 0 0))]) dL_isSound_242 rfl (by decide) rfl ?_
            refine pw_iconst (pc2 := 245) (v := 0) dL_isSound_244 rfl (by decide) ?_
            refine pw_topE (y := hyN σ r 0) ((hyN_0 r).symm) ?_
            refine pw_istore (pc2 := 247) (L2 := [(7, Value.int (hyN σ r 0)), (4, Value.int (gdN σ (r + 1))), (6, Value.int 1), (5, Value.int (nI r)), (3, Value.int (nI (npk σ))), (2, Value.int (nI (nrl σ))), (1, Value.ref (A 60 0)), (0, Value.ref (A 0 0))]) dL_isSound_245 rfl (by decide) rfl ?_
            refine pw_iconst (pc2 := 248) (v := 0) dL_isSound_247 rfl (by decide) ?_
            refine pw_istore (pc2 := 250) (L2 := [(8, Value.int 0), (7, Value.int (hyN σ r 0)), (4, Value.int (gdN σ (r + 1))), (6, Value.int 1), (5, Value.int (nI r)), (3, Value.int (nI (npk σ))), (2, Value.int (nI (nrl σ))), (1, Value.ref (A 60 0)), (0, Value.ref (A 0 0))]) dL_isSound_248 rfl (by decide) rfl ?_
            have lp4 : ∀ (k4 q : Nat) (h4 : hp), q + k4 = npk σ → WS G h4 A σ → PW G ML_isSound d noA (E0 G (QL G A σ (.int 1)) noX) (k3 * 20 + k4 * 3 + 110) (k3 * 120 + k4 * 18 + 660) 250 [(8, Value.int (nI q)), (7, Value.int (hyN σ r q)), (6, Value.int 1), (5, Value.int (nI r)), (4, Value.int (gdN σ (r + 1))), (3, Value.int (nI (npk σ))), (2, Value.int (nI (nrl σ))), (1, Value.ref (A 60 0)), (0, Value.ref (A 0 0))] [] h4 := by
              intro k4
              induction k4 with
              | zero =>
                intro q h4 hik4 W4
                have hi4 : npk σ = q := by omega
                subst hi4
                refine PW.widen (kc' := k3 * 20 + 110) (ks' := k3 * 120 + 660) (by omega) (by omega) ?_
                refine pw_iload (pc2 := 252) dL_isSound_250 rfl 0 rfl ?_
                refine pw_iload_n (pc2 := 253) dL_isSound_252 rfl rfl 5 rfl ?_
                refine pw_icmp_ge (tgt := 372) (pc2 := 256) dL_isSound_253 (by decide) rfl (fun _ => ?_) (fun c253 => by exact absurd (Int32.le_refl _) c253)
                refine pw_iload (pc2 := 374) dL_isSound_372 rfl 2 rfl ?_
                refine pw_iload (pc2 := 376) dL_isSound_374 rfl 1 rfl ?_
                by_cases hH : HY σ r (npk σ)
                · refine pw_topE (y := 1) (hyN_1 hH) ?_
                  refine pw_if_eq (tgt := 392) (pc2 := 379) dL_isSound_376 (by decide) rfl (fun c376 => by exact absurd c376 (by decide)) (fun _ => ?_)
                  refine pw_aload_n (pc2 := 380) dL_isSound_379 rfl rfl 7 rfl (by first | exact rf_ref _ | exact rf_opt _ | exact rf_nul) ?_
                  refine pw_iload (pc2 := 382) dL_isSound_380 rfl 3 rfl ?_
                  refine pw_aaldN (pc2 := 383) 6 rfl rfl W4.c60 (i := r) (by first | assumption | omega) (by omega) dL_isSound_382 rfl ?_
                  refine pw_topV (rowv (by first | assumption | omega)) ?_
                  refine pw_iconst (pc2 := 384) (v := 2) dL_isSound_383 rfl (by decide) ?_
                  refine pw_ialdN (pc2 := 385) (W4.c61 (by omega)) (i := 2) (by first | assumption | omega) (by omega) dL_isSound_384 rfl ?_
                  refine pw_topE (y := σ.1 40 r 2) ((HD r hi3).2.2) ?_
                  refine pw_if_ne (tgt := 392) (pc2 := 388) dL_isSound_385 (by decide) rfl (fun c385 => by exact absurd (hst.1) c385) (fun _ => ?_)
                  refine pw_iconst (pc2 := 389) (v := 1) dL_isSound_388 rfl (by decide) ?_
                  refine pw_goto (tgt := 393) dL_isSound_389 (by decide) ?_
                  refine pw_icmp_eq (tgt := 398) (pc2 := 396) dL_isSound_393 (by decide) rfl (fun _ => ?_) (fun c393 => by exact absurd (by decide) c393)
                  refine pw_iinc (pc2 := 401) (v := nI (r + 1)) (L2 := [(5, Value.int (nI (r + 1))), (8, Value.int (nI (npk σ))), (7, Value.int (hyN σ r (npk σ))), (6, Value.int 1), (4, Value.int (gdN σ (r + 1))), (3, Value.int (nI (npk σ))), (2, Value.int (nI (nrl σ))), (1, Value.ref (A 60 0)), (0, Value.ref (A 0 0))]) dL_isSound_398 rfl 3 rfl (by show nI _ + 1 = nI _; exact nI_1 _) (by decide) rfl ?_
                  refine pw_goto (tgt := 186) dL_isSound_401 (by decide) ?_
                  refine PW.sub (L2 := [(5, Value.int (nI (r + 1))), (4, Value.int (gdN σ (r + 1))), (3, Value.int (nI (npk σ))), (2, Value.int (nI (nrl σ))), (1, Value.ref (A 60 0)), (0, Value.ref (A 0 0))]) [0, 4, 5, 6, 7, 8] rfl ?_
                  refine PW.widen (kc' := k3 * 20 + 110) (ks' := k3 * 120 + 660) (by omega) (by omega) ?_
                  exact ih3 (r + 1) h4 (by omega) W4
                · exact absurd ((stl_HY HW HJ hi3).mp hst).2 hH
              | succ k4 ih4 =>
                intro q h4 hik4 W4
                have hi4 : q < npk σ := by omega
                refine PW.widen (kc' := k3 * 20 + k4 * 3 + 113) (ks' := k3 * 120 + k4 * 18 + 678) (by omega) (by omega) ?_
                refine pw_iload (pc2 := 252) dL_isSound_250 rfl 0 rfl ?_
                refine pw_iload_n (pc2 := 253) dL_isSound_252 rfl rfl 5 rfl ?_
                refine pw_icmp_ge (tgt := 372) (pc2 := 256) dL_isSound_253 (by decide) rfl (fun c253 => by exact absurd c253 (fun z => by have := (nI_leI (a := npk σ) (b := q) (by omega) (by omega)).mp z; omega)) (fun _ => ?_)
                refine pw_aload_n (pc2 := 257) dL_isSound_256 rfl rfl 8 rfl (by first | exact rf_ref _ | exact rf_opt _ | exact rf_nul) ?_
                refine pw_aload_n (pc2 := 258) dL_isSound_257 rfl rfl 7 rfl (by first | exact rf_ref _ | exact rf_opt _ | exact rf_nul) ?_
                refine pw_iload (pc2 := 260) dL_isSound_258 rfl 3 rfl ?_
                refine pw_aaldN (pc2 := 261) 6 rfl rfl W4.c60 (i := r) (by first | assumption | omega) (by omega) dL_isSound_260 rfl ?_
                refine pw_topV (rowv (by first | assumption | omega)) ?_
                refine pw_iconst (pc2 := 262) (v := 0) dL_isSound_261 rfl (by decide) ?_
                refine pw_ialdN (pc2 := 263) (W4.c61 (by omega)) (i := 0) (by first | assumption | omega) (by omega) dL_isSound_262 rfl ?_
                refine pw_topE (y := nI (ofr r)) ((HD r hi3).1) ?_
                refine pw_aload_n (pc2 := 264) dL_isSound_263 rfl rfl 7 rfl (by first | exact rf_ref _ | exact rf_opt _ | exact rf_nul) ?_
                refine pw_iload (pc2 := 266) dL_isSound_264 rfl 3 rfl ?_
                refine pw_aaldN (pc2 := 267) 6 rfl rfl W4.c60 (i := r) (by first | assumption | omega) (by omega) dL_isSound_266 rfl ?_
                refine pw_topV (rowv (by first | assumption | omega)) ?_
                refine pw_iconst (pc2 := 268) (v := 1) dL_isSound_267 rfl (by decide) ?_
                refine pw_ialdN (pc2 := 269) (W4.c61 (by omega)) (i := 1) (by first | assumption | omega) (by omega) dL_isSound_268 rfl ?_
                refine pw_topE (y := σ.1 40 r 0) ((HD r hi3).2.1) ?_
                refine pw_bipush (pc2 := 271) (v := 10) dL_isSound_269 rfl (by decide) ?_
                refine pw_iload (pc2 := 273) dL_isSound_271 rfl 0 rfl ?_
                refine pw_iadd (pc2 := 274) dL_isSound_273 rfl ?_
                refine pw_topE (y := nI (10 + q)) (nI_add_ 10 q) ?_
                refine PW.widen (kc' := k3 * 20 + k4 * 3 + 110 + 3) (ks' := k3 * 120 + k4 * 18 + 660 + 18) (by omega) (by omega) ?_
                refine pw_lookS (kc := k3 * 20 + k4 * 3 + 110) (ks := k3 * 120 + k4 * 18 + 660) (pc2 := 277) (k_relL W4 HJ hi3 hi4) cs_L_152 rfl dL_isSound_274 rfl (by omega) rfl (by first | decide | simp [cat_rf, Value.category]) (fun h14 W14 => ?_)
                refine pw_istore (pc2 := 279) (L2 := [(9, Value.int (vG σ (σ.2.2 45 r q))), (8, Value.int (nI q)), (7, Value.int (hyN σ r q)), (6, Value.int 1), (5, Value.int (nI r)), (4, Value.int (gdN σ (r + 1))), (3, Value.int (nI (npk σ))), (2, Value.int (nI (nrl σ))), (1, Value.ref (A 60 0)), (0, Value.ref (A 0 0))]) dL_isSound_277 rfl (by decide) rfl ?_
                refine pw_iload (pc2 := 281) dL_isSound_279 rfl 0 rfl ?_
                refine pw_if_lt (tgt := 300) (pc2 := 284) dL_isSound_281 (by decide) rfl (fun c281 => by exact absurd c281 (lk_nn HW HJ hi3 q)) (fun _ => ?_)
                refine pw_iload (pc2 := 286) dL_isSound_284 rfl 1 rfl ?_
                refine pw_aload_n (pc2 := 287) dL_isSound_286 rfl rfl 8 rfl (by first | exact rf_ref _ | exact rf_opt _ | exact rf_nul) ?_
                refine pw_iload (pc2 := 289) dL_isSound_287 rfl 4 rfl ?_
                refine pw_aaldN (pc2 := 290) 6 rfl rfl W14.c60 (i := r) (by first | assumption | omega) (by omega) dL_isSound_289 rfl ?_
                refine pw_topV (rowv (by first | assumption | omega)) ?_
                refine pw_iconst (pc2 := 291) (v := 0) dL_isSound_290 rfl (by decide) ?_
                refine pw_ialdN (pc2 := 292) (W14.c61 (by omega)) (i := 0) (by first | assumption | omega) (by omega) dL_isSound_291 rfl ?_
                refine pw_topE (y := nI (ofr r)) ((HD r hi3).1) ?_
                refine pw_icmp_lt (tgt := 302) (pc2 := 295) dL_isSound_292 (by decide) rfl (fun c292 => ?_) (fun c292 => ?_)
                · rcases opt_cases (σ.2.2 45 r q) with hl | ⟨x, hl⟩
                  · refine pw_iconst (pc2 := 303) (v := 0) dL_isSound_302 rfl (by decide) ?_
                    refine pw_istore (pc2 := 305) (L2 := [(10, Value.int 0), (9, Value.int (vG σ (σ.2.2 45 r q))), (8, Value.int (nI q)), (7, Value.int (hyN σ r q)), (6, Value.int 1), (5, Value.int (nI r)), (4, Value.int (gdN σ (r + 1))), (3, Value.int (nI (npk σ))), (2, Value.int (nI (nrl σ))), (1, Value.ref (A 60 0)), (0, Value.ref (A 0 0))]) dL_isSound_303 rfl (by decide) rfl ?_
                    refine pw_iload (pc2 := 307) dL_isSound_305 rfl 0 rfl ?_
                    refine pw_iload_n (pc2 := 308) dL_isSound_307 rfl rfl 8 rfl ?_
                    refine pw_icmp_ge (tgt := 366) (pc2 := 311) dL_isSound_308 (by decide) rfl (fun c308 => ?_) (fun c308 => ?_)
                    · refine pw_iinc (pc2 := 369) (v := nI (q + 1)) (L2 := [(8, Value.int (nI (q + 1))), (10, Value.int 0), (9, Value.int (vG σ (σ.2.2 45 r q))), (7, Value.int (hyN σ r q)), (6, Value.int 1), (5, Value.int (nI r)), (4, Value.int (gdN σ (r + 1))), (3, Value.int (nI (npk σ))), (2, Value.int (nI (nrl σ))), (1, Value.ref (A 60 0)), (0, Value.ref (A 0 0))]) dL_isSound_366 rfl 2 rfl (by show nI _ + 1 = nI _; exact nI_1 _) (by decide) rfl ?_
                      refine pw_goto (tgt := 250) dL_isSound_369 (by decide) ?_
                      rw [← hyN_n hl]
                      refine PW.sub (L2 := [(8, Value.int (nI (q + 1))), (7, Value.int (hyN σ r (q + 1))), (6, Value.int 1), (5, Value.int (nI r)), (4, Value.int (gdN σ (r + 1))), (3, Value.int (nI (npk σ))), (2, Value.int (nI (nrl σ))), (1, Value.ref (A 60 0)), (0, Value.ref (A 0 0))]) [0, 3, 4, 5, 6, 7, 8, 9, 10] rfl ?_
                      refine PW.widen (kc' := k3 * 20 + k4 * 3 + 110) (ks' := k3 * 120 + k4 * 18 + 660) (by omega) (by omega) ?_
                      exact ih4 (q + 1) h14 (by omega) W14
                    · refine pw_iload (pc2 := 313) dL_isSound_311 rfl 1 rfl ?_
                      refine pw_if_le (tgt := 366) (pc2 := 316) dL_isSound_313 (by decide) rfl (fun _ => ?_) (fun c313 => by exact absurd (lk_non hl) c313)
                      refine pw_iinc (pc2 := 369) (v := nI (q + 1)) (L2 := [(8, Value.int (nI (q + 1))), (10, Value.int 0), (9, Value.int (vG σ (σ.2.2 45 r q))), (7, Value.int (hyN σ r q)), (6, Value.int 1), (5, Value.int (nI r)), (4, Value.int (gdN σ (r + 1))), (3, Value.int (nI (npk σ))), (2, Value.int (nI (nrl σ))), (1, Value.ref (A 60 0)), (0, Value.ref (A 0 0))]) dL_isSound_366 rfl 2 rfl (by show nI _ + 1 = nI _; exact nI_1 _) (by decide) rfl ?_
                      refine pw_goto (tgt := 250) dL_isSound_369 (by decide) ?_
                      rw [← hyN_n hl]
                      refine PW.sub (L2 := [(8, Value.int (nI (q + 1))), (7, Value.int (hyN σ r (q + 1))), (6, Value.int 1), (5, Value.int (nI r)), (4, Value.int (gdN σ (r + 1))), (3, Value.int (nI (npk σ))), (2, Value.int (nI (nrl σ))), (1, Value.ref (A 60 0)), (0, Value.ref (A 0 0))]) [0, 3, 4, 5, 6, 7, 8, 9, 10] rfl ?_
                      refine PW.widen (kc' := k3 * 20 + k4 * 3 + 110) (ks' := k3 * 120 + k4 * 18 + 660) (by omega) (by omega) ?_
                      exact ih4 (q + 1) h14 (by omega) W14
                  · have hx1 : ofr x = q := ((HJ.2.2.2.1.1 r hi3).1 q x hl).1
                    have hx2 : x < nrl σ := HW.p45 hi3 q x hl
                    refine pw_iconst (pc2 := 303) (v := 0) dL_isSound_302 rfl (by decide) ?_
                    refine pw_istore (pc2 := 305) (L2 := [(10, Value.int 0), (9, Value.int (vG σ (σ.2.2 45 r q))), (8, Value.int (nI q)), (7, Value.int (hyN σ r q)), (6, Value.int 1), (5, Value.int (nI r)), (4, Value.int (gdN σ (r + 1))), (3, Value.int (nI (npk σ))), (2, Value.int (nI (nrl σ))), (1, Value.ref (A 60 0)), (0, Value.ref (A 0 0))]) dL_isSound_303 rfl (by decide) rfl ?_
                    rw [kyN_0 (σ := σ) (r := r) (n := q) (x := x)]
                    have lp5 : ∀ (k5 k9 : Nat) (h5 : hp), k9 + k5 = nrl σ → WS G h5 A σ → PW G ML_isSound d noA (E0 G (QL G A σ (.int 1)) noX) (k3 * 20 + k4 * 3 + k5 * 0 + 110) (k3 * 120 + k4 * 18 + k5 * 0 + 660) 305 [(10, Value.int (nI k9)), (9, Value.int (vG σ (σ.2.2 45 r q))), (8, Value.int (nI q)), (7, Value.int (kyN σ r q x k9)), (6, Value.int 1), (5, Value.int (nI r)), (4, Value.int (gdN σ (r + 1))), (3, Value.int (nI (npk σ))), (2, Value.int (nI (nrl σ))), (1, Value.ref (A 60 0)), (0, Value.ref (A 0 0))] [] h5 := by
                      intro k5
                      induction k5 with
                      | zero =>
                        intro k9 h5 hik5 W5
                        have hi5 : nrl σ = k9 := by omega
                        subst hi5
                        refine PW.widen (kc' := k3 * 20 + k4 * 3 + 110) (ks' := k3 * 120 + k4 * 18 + 660) (by omega) (by omega) ?_
                        refine pw_iload (pc2 := 307) dL_isSound_305 rfl 0 rfl ?_
                        refine pw_iload_n (pc2 := 308) dL_isSound_307 rfl rfl 8 rfl ?_
                        refine pw_icmp_ge (tgt := 366) (pc2 := 311) dL_isSound_308 (by decide) rfl (fun _ => ?_) (fun c308 => by exact absurd (Int32.le_refl _) c308)
                        refine pw_iinc (pc2 := 369) (v := nI (q + 1)) (L2 := [(8, Value.int (nI (q + 1))), (10, Value.int (nI (nrl σ))), (9, Value.int (vG σ (σ.2.2 45 r q))), (7, Value.int (kyN σ r q x (nrl σ))), (6, Value.int 1), (5, Value.int (nI r)), (4, Value.int (gdN σ (r + 1))), (3, Value.int (nI (npk σ))), (2, Value.int (nI (nrl σ))), (1, Value.ref (A 60 0)), (0, Value.ref (A 0 0))]) dL_isSound_366 rfl 2 rfl (by show nI _ + 1 = nI _; exact nI_1 _) (by decide) rfl ?_
                        refine pw_goto (tgt := 250) dL_isSound_369 (by decide) ?_
                        rw [kyN_e hl hx2]
                        refine PW.sub (L2 := [(8, Value.int (nI (q + 1))), (7, Value.int (hyN σ r (q + 1))), (6, Value.int 1), (5, Value.int (nI r)), (4, Value.int (gdN σ (r + 1))), (3, Value.int (nI (npk σ))), (2, Value.int (nI (nrl σ))), (1, Value.ref (A 60 0)), (0, Value.ref (A 0 0))]) [0, 3, 4, 5, 6, 7, 8, 9, 10] rfl ?_
                        refine PW.widen (kc' := k3 * 20 + k4 * 3 + 110) (ks' := k3 * 120 + k4 * 18 + 660) (by omega) (by omega) ?_
                        exact ih4 (q + 1) h5 (by omega) W5
                      | succ k5 ih5 =>
                        intro k9 h5 hik5 W5
                        have hi5 : k9 < nrl σ := by omega
                        refine PW.widen (kc' := k3 * 20 + k4 * 3 + k5 * 0 + 110) (ks' := k3 * 120 + k4 * 18 + k5 * 0 + 660) (by omega) (by omega) ?_
                        refine pw_iload (pc2 := 307) dL_isSound_305 rfl 0 rfl ?_
                        refine pw_iload_n (pc2 := 308) dL_isSound_307 rfl rfl 8 rfl ?_
                        refine pw_icmp_ge (tgt := 366) (pc2 := 311) dL_isSound_308 (by decide) rfl (fun c308 => by exact absurd c308 (fun z => by have := (nI_leI (a := nrl σ) (b := k9) (by omega) (by omega)).mp z; omega)) (fun _ => ?_)
                        refine pw_iload (pc2 := 313) dL_isSound_311 rfl 1 rfl ?_
                        refine pw_if_le (tgt := 366) (pc2 := 316) dL_isSound_313 (by decide) rfl (fun c313 => by exact absurd c313 (lk_pos HW HJ hi3 hl)) (fun _ => ?_)
                        refine pw_iload (pc2 := 318) dL_isSound_316 rfl 3 rfl ?_
                        by_cases hK : KY σ r q x k9
                        · refine pw_topE (y := 1) (kyN_1 hK) ?_
                          refine pw_if_ne (tgt := 353) (pc2 := 321) dL_isSound_318 (by decide) rfl (fun _ => ?_) (fun c318 => by exact absurd c318 (by decide))
                          refine pw_iconst (pc2 := 354) (v := 1) dL_isSound_353 rfl (by decide) ?_
                          refine pw_goto (tgt := 358) dL_isSound_354 (by decide) ?_
                          refine pw_topE (y := kyN σ r q x (k9 + 1)) ((kyN_1 (KY_s hK)).symm) ?_
                          refine pw_istore (pc2 := 360) (L2 := [(7, Value.int (kyN σ r q x (k9 + 1))), (10, Value.int (nI k9)), (9, Value.int (vG σ (σ.2.2 45 r q))), (8, Value.int (nI q)), (6, Value.int 1), (5, Value.int (nI r)), (4, Value.int (gdN σ (r + 1))), (3, Value.int (nI (npk σ))), (2, Value.int (nI (nrl σ))), (1, Value.ref (A 60 0)), (0, Value.ref (A 0 0))]) dL_isSound_358 rfl (by decide) rfl ?_
                          refine pw_iinc (pc2 := 363) (v := nI (k9 + 1)) (L2 := [(10, Value.int (nI (k9 + 1))), (7, Value.int (kyN σ r q x (k9 + 1))), (9, Value.int (vG σ (σ.2.2 45 r q))), (8, Value.int (nI q)), (6, Value.int 1), (5, Value.int (nI r)), (4, Value.int (gdN σ (r + 1))), (3, Value.int (nI (npk σ))), (2, Value.int (nI (nrl σ))), (1, Value.ref (A 60 0)), (0, Value.ref (A 0 0))]) dL_isSound_360 rfl 1 rfl (by show nI _ + 1 = nI _; exact nI_1 _) (by decide) rfl ?_
                          refine pw_goto (tgt := 305) dL_isSound_363 (by decide) ?_
                          refine PW.sub (L2 := [(10, Value.int (nI (k9 + 1))), (9, Value.int (vG σ (σ.2.2 45 r q))), (8, Value.int (nI q)), (7, Value.int (kyN σ r q x (k9 + 1))), (6, Value.int 1), (5, Value.int (nI r)), (4, Value.int (gdN σ (r + 1))), (3, Value.int (nI (npk σ))), (2, Value.int (nI (nrl σ))), (1, Value.ref (A 60 0)), (0, Value.ref (A 0 0))]) [0, 2, 3, 1, 4, 5, 6, 7, 8, 9, 10] rfl ?_
                          refine PW.widen (kc' := k3 * 20 + k4 * 3 + k5 * 0 + 110) (ks' := k3 * 120 + k4 * 18 + k5 * 0 + 660) (by omega) (by omega) ?_
                          exact ih5 (k9 + 1) h5 (by omega) W5
                        · refine pw_topE (y := 0) (kyN_f hK) ?_
                          refine pw_if_ne (tgt := 353) (pc2 := 321) dL_isSound_318 (by decide) rfl (fun c318 => by exact absurd (by decide) c318) (fun _ => ?_)
                          refine pw_aload_n (pc2 := 322) dL_isSound_321 rfl rfl 9 rfl (by first | exact rf_ref _ | exact rf_opt _ | exact rf_nul) ?_
                          refine pw_iload (pc2 := 324) dL_isSound_322 rfl 0 rfl ?_
                          refine pw_aaldN (pc2 := 325) 6 rfl rfl W5.c60 (i := k9) (by first | assumption | omega) (by omega) dL_isSound_324 rfl ?_
                          refine pw_topV (rowv (by first | assumption | omega)) ?_
                          refine pw_iconst (pc2 := 326) (v := 0) dL_isSound_325 rfl (by decide) ?_
                          refine pw_ialdN (pc2 := 327) (W5.c61 (by omega)) (i := 0) (by first | assumption | omega) (by omega) dL_isSound_326 rfl ?_
                          refine pw_topE (y := nI (ofr k9)) ((HD k9 hi5).1) ?_
                          refine pw_iload (pc2 := 329) dL_isSound_327 rfl 2 rfl ?_
                          refine pw_icmp_ne (tgt := 357) (pc2 := 332) dL_isSound_329 (by decide) rfl (fun c329 => ?_) (fun c329 => ?_)
                          · refine pw_iconst (pc2 := 358) (v := 0) dL_isSound_357 rfl (by decide) ?_
                            refine pw_topE (y := kyN σ r q x (k9 + 1)) ((kyN_f (KY_n hK (Or.inl (fun z => c329 (by rw [z, hx1]))))).symm) ?_
                            refine pw_istore (pc2 := 360) (L2 := [(7, Value.int (kyN σ r q x (k9 + 1))), (10, Value.int (nI k9)), (9, Value.int (vG σ (σ.2.2 45 r q))), (8, Value.int (nI q)), (6, Value.int 1), (5, Value.int (nI r)), (4, Value.int (gdN σ (r + 1))), (3, Value.int (nI (npk σ))), (2, Value.int (nI (nrl σ))), (1, Value.ref (A 60 0)), (0, Value.ref (A 0 0))]) dL_isSound_358 rfl (by decide) rfl ?_
                            refine pw_iinc (pc2 := 363) (v := nI (k9 + 1)) (L2 := [(10, Value.int (nI (k9 + 1))), (7, Value.int (kyN σ r q x (k9 + 1))), (9, Value.int (vG σ (σ.2.2 45 r q))), (8, Value.int (nI q)), (6, Value.int 1), (5, Value.int (nI r)), (4, Value.int (gdN σ (r + 1))), (3, Value.int (nI (npk σ))), (2, Value.int (nI (nrl σ))), (1, Value.ref (A 60 0)), (0, Value.ref (A 0 0))]) dL_isSound_360 rfl 1 rfl (by show nI _ + 1 = nI _; exact nI_1 _) (by decide) rfl ?_
                            refine pw_goto (tgt := 305) dL_isSound_363 (by decide) ?_
                            refine PW.sub (L2 := [(10, Value.int (nI (k9 + 1))), (9, Value.int (vG σ (σ.2.2 45 r q))), (8, Value.int (nI q)), (7, Value.int (kyN σ r q x (k9 + 1))), (6, Value.int 1), (5, Value.int (nI r)), (4, Value.int (gdN σ (r + 1))), (3, Value.int (nI (npk σ))), (2, Value.int (nI (nrl σ))), (1, Value.ref (A 60 0)), (0, Value.ref (A 0 0))]) [0, 2, 3, 1, 4, 5, 6, 7, 8, 9, 10] rfl ?_
                            refine PW.widen (kc' := k3 * 20 + k4 * 3 + k5 * 0 + 110) (ks' := k3 * 120 + k4 * 18 + k5 * 0 + 660) (by omega) (by omega) ?_
                            exact ih5 (k9 + 1) h5 (by omega) W5
                          · refine pw_aload_n (pc2 := 333) dL_isSound_332 rfl rfl 9 rfl (by first | exact rf_ref _ | exact rf_opt _ | exact rf_nul) ?_
                            refine pw_iload (pc2 := 335) dL_isSound_333 rfl 0 rfl ?_
                            refine pw_aaldN (pc2 := 336) 6 rfl rfl W5.c60 (i := k9) (by first | assumption | omega) (by omega) dL_isSound_335 rfl ?_
                            refine pw_topV (rowv (by first | assumption | omega)) ?_
                            refine pw_iconst (pc2 := 337) (v := 1) dL_isSound_336 rfl (by decide) ?_
                            refine pw_ialdN (pc2 := 338) (W5.c61 (by omega)) (i := 1) (by first | assumption | omega) (by omega) dL_isSound_337 rfl ?_
                            refine pw_topE (y := σ.1 40 k9 0) ((HD k9 hi5).2.1) ?_
                            refine pw_iload (pc2 := 340) dL_isSound_338 rfl 1 rfl ?_
                            refine pw_icmp_ne (tgt := 357) (pc2 := 343) dL_isSound_340 (by decide) rfl (fun c340 => ?_) (fun c340 => ?_)
                            · refine pw_iconst (pc2 := 358) (v := 0) dL_isSound_357 rfl (by decide) ?_
                              refine pw_topE (y := kyN σ r q x (k9 + 1)) ((kyN_f (KY_n hK (Or.inl (fun z => c340 (by rw [z]; exact (congrArg (vG σ) hl).symm))))).symm) ?_
                              refine pw_istore (pc2 := 360) (L2 := [(7, Value.int (kyN σ r q x (k9 + 1))), (10, Value.int (nI k9)), (9, Value.int (vG σ (σ.2.2 45 r q))), (8, Value.int (nI q)), (6, Value.int 1), (5, Value.int (nI r)), (4, Value.int (gdN σ (r + 1))), (3, Value.int (nI (npk σ))), (2, Value.int (nI (nrl σ))), (1, Value.ref (A 60 0)), (0, Value.ref (A 0 0))]) dL_isSound_358 rfl (by decide) rfl ?_
                              refine pw_iinc (pc2 := 363) (v := nI (k9 + 1)) (L2 := [(10, Value.int (nI (k9 + 1))), (7, Value.int (kyN σ r q x (k9 + 1))), (9, Value.int (vG σ (σ.2.2 45 r q))), (8, Value.int (nI q)), (6, Value.int 1), (5, Value.int (nI r)), (4, Value.int (gdN σ (r + 1))), (3, Value.int (nI (npk σ))), (2, Value.int (nI (nrl σ))), (1, Value.ref (A 60 0)), (0, Value.ref (A 0 0))]) dL_isSound_360 rfl 1 rfl (by show nI _ + 1 = nI _; exact nI_1 _) (by decide) rfl ?_
                              refine pw_goto (tgt := 305) dL_isSound_363 (by decide) ?_
                              refine PW.sub (L2 := [(10, Value.int (nI (k9 + 1))), (9, Value.int (vG σ (σ.2.2 45 r q))), (8, Value.int (nI q)), (7, Value.int (kyN σ r q x (k9 + 1))), (6, Value.int 1), (5, Value.int (nI r)), (4, Value.int (gdN σ (r + 1))), (3, Value.int (nI (npk σ))), (2, Value.int (nI (nrl σ))), (1, Value.ref (A 60 0)), (0, Value.ref (A 0 0))]) [0, 2, 3, 1, 4, 5, 6, 7, 8, 9, 10] rfl ?_
                              refine PW.widen (kc' := k3 * 20 + k4 * 3 + k5 * 0 + 110) (ks' := k3 * 120 + k4 * 18 + k5 * 0 + 660) (by omega) (by omega) ?_
                              exact ih5 (k9 + 1) h5 (by omega) W5
                            · refine pw_aload_n (pc2 := 344) dL_isSound_343 rfl rfl 9 rfl (by first | exact rf_ref _ | exact rf_opt _ | exact rf_nul) ?_
                              refine pw_iload (pc2 := 346) dL_isSound_344 rfl 0 rfl ?_
                              refine pw_aaldN (pc2 := 347) 6 rfl rfl W5.c60 (i := k9) (by first | assumption | omega) (by omega) dL_isSound_346 rfl ?_
                              refine pw_topV (rowv (by first | assumption | omega)) ?_
                              refine pw_iconst (pc2 := 348) (v := 2) dL_isSound_347 rfl (by decide) ?_
                              refine pw_ialdN (pc2 := 349) (W5.c61 (by omega)) (i := 2) (by first | assumption | omega) (by omega) dL_isSound_348 rfl ?_
                              refine pw_topE (y := σ.1 40 k9 2) ((HD k9 hi5).2.2) ?_
                              refine pw_iconst (pc2 := 350) (v := 1) dL_isSound_349 rfl (by decide) ?_
                              refine pw_icmp_ne (tgt := 357) (pc2 := 353) dL_isSound_350 (by decide) rfl (fun c350 => ?_) (fun c350 => ?_)
                              · refine pw_iconst (pc2 := 358) (v := 0) dL_isSound_357 rfl (by decide) ?_
                                refine pw_topE (y := kyN σ r q x (k9 + 1)) ((kyN_f (KY_n hK (ne_or0 (HW.b40 hx2) c350))).symm) ?_
                                refine pw_istore (pc2 := 360) (L2 := [(7, Value.int (kyN σ r q x (k9 + 1))), (10, Value.int (nI k9)), (9, Value.int (vG σ (σ.2.2 45 r q))), (8, Value.int (nI q)), (6, Value.int 1), (5, Value.int (nI r)), (4, Value.int (gdN σ (r + 1))), (3, Value.int (nI (npk σ))), (2, Value.int (nI (nrl σ))), (1, Value.ref (A 60 0)), (0, Value.ref (A 0 0))]) dL_isSound_358 rfl (by decide) rfl ?_
                                refine pw_iinc (pc2 := 363) (v := nI (k9 + 1)) (L2 := [(10, Value.int (nI (k9 + 1))), (7, Value.int (kyN σ r q x (k9 + 1))), (9, Value.int (vG σ (σ.2.2 45 r q))), (8, Value.int (nI q)), (6, Value.int 1), (5, Value.int (nI r)), (4, Value.int (gdN σ (r + 1))), (3, Value.int (nI (npk σ))), (2, Value.int (nI (nrl σ))), (1, Value.ref (A 60 0)), (0, Value.ref (A 0 0))]) dL_isSound_360 rfl 1 rfl (by show nI _ + 1 = nI _; exact nI_1 _) (by decide) rfl ?_
                                refine pw_goto (tgt := 305) dL_isSound_363 (by decide) ?_
                                refine PW.sub (L2 := [(10, Value.int (nI (k9 + 1))), (9, Value.int (vG σ (σ.2.2 45 r q))), (8, Value.int (nI q)), (7, Value.int (kyN σ r q x (k9 + 1))), (6, Value.int 1), (5, Value.int (nI r)), (4, Value.int (gdN σ (r + 1))), (3, Value.int (nI (npk σ))), (2, Value.int (nI (nrl σ))), (1, Value.ref (A 60 0)), (0, Value.ref (A 0 0))]) [0, 2, 3, 1, 4, 5, 6, 7, 8, 9, 10] rfl ?_
                                refine PW.widen (kc' := k3 * 20 + k4 * 3 + k5 * 0 + 110) (ks' := k3 * 120 + k4 * 18 + k5 * 0 + 660) (by omega) (by omega) ?_
                                exact ih5 (k9 + 1) h5 (by omega) W5
                              · refine pw_iconst (pc2 := 354) (v := 1) dL_isSound_353 rfl (by decide) ?_
                                refine pw_goto (tgt := 358) dL_isSound_354 (by decide) ?_
                                refine pw_topE (y := kyN σ r q x (k9 + 1)) ((kyN_1 (Or.inr (by have ex : k9 = x := HJ.2.2.2.1.inj hi5 hx2 ((nI_inj (by have := HJ.2.2.1.1 k9 hi5; omega) (by omega) c329).trans hx1.symm) (c340.trans (congrArg (vG σ) hl)); exact ⟨by omega, by rw [← ex, c350]; decide⟩))).symm) ?_
                                refine pw_istore (pc2 := 360) (L2 := [(7, Value.int (kyN σ r q x (k9 + 1))), (10, Value.int (nI k9)), (9, Value.int (vG σ (σ.2.2 45 r q))), (8, Value.int (nI q)), (6, Value.int 1), (5, Value.int (nI r)), (4, Value.int (gdN σ (r + 1))), (3, Value.int (nI (npk σ))), (2, Value.int (nI (nrl σ))), (1, Value.ref (A 60 0)), (0, Value.ref (A 0 0))]) dL_isSound_358 rfl (by decide) rfl ?_
                                refine pw_iinc (pc2 := 363) (v := nI (k9 + 1)) (L2 := [(10, Value.int (nI (k9 + 1))), (7, Value.int (kyN σ r q x (k9 + 1))), (9, Value.int (vG σ (σ.2.2 45 r q))), (8, Value.int (nI q)), (6, Value.int 1), (5, Value.int (nI r)), (4, Value.int (gdN σ (r + 1))), (3, Value.int (nI (npk σ))), (2, Value.int (nI (nrl σ))), (1, Value.ref (A 60 0)), (0, Value.ref (A 0 0))]) dL_isSound_360 rfl 1 rfl (by show nI _ + 1 = nI _; exact nI_1 _) (by decide) rfl ?_
                                refine pw_goto (tgt := 305) dL_isSound_363 (by decide) ?_
                                refine PW.sub (L2 := [(10, Value.int (nI (k9 + 1))), (9, Value.int (vG σ (σ.2.2 45 r q))), (8, Value.int (nI q)), (7, Value.int (kyN σ r q x (k9 + 1))), (6, Value.int 1), (5, Value.int (nI r)), (4, Value.int (gdN σ (r + 1))), (3, Value.int (nI (npk σ))), (2, Value.int (nI (nrl σ))), (1, Value.ref (A 60 0)), (0, Value.ref (A 0 0))]) [0, 2, 3, 1, 4, 5, 6, 7, 8, 9, 10] rfl ?_
                                refine PW.widen (kc' := k3 * 20 + k4 * 3 + k5 * 0 + 110) (ks' := k3 * 120 + k4 * 18 + k5 * 0 + 660) (by omega) (by omega) ?_
                                exact ih5 (k9 + 1) h5 (by omega) W5
                    refine PW.sub (L2 := [(10, Value.int 0), (9, Value.int (vG σ (σ.2.2 45 r q))), (8, Value.int (nI q)), (7, Value.int (kyN σ r q x 0)), (6, Value.int 1), (5, Value.int (nI r)), (4, Value.int (gdN σ (r + 1))), (3, Value.int (nI (npk σ))), (2, Value.int (nI (nrl σ))), (1, Value.ref (A 60 0)), (0, Value.ref (A 0 0))]) [0, 1, 2, 3, 4, 5, 6, 7, 8, 9, 10] rfl ?_
                    refine PW.widen (kc' := k3 * 20 + k4 * 3 + (nrl σ - 0) * 0 + 110) (ks' := k3 * 120 + k4 * 18 + (nrl σ - 0) * 0 + 660) (by omega) (by omega) ?_
                    exact lp5 (nrl σ - 0) 0 h14 (by omega) W14
                · refine pw_iload (pc2 := 297) dL_isSound_295 rfl 0 rfl ?_
                  refine pw_if_le (tgt := 302) (pc2 := 300) dL_isSound_297 (by decide) rfl (fun _ => ?_) (fun c297 => by exact absurd (lk_hi HW HJ hi3 hi4 c292) c297)
                  rcases opt_cases (σ.2.2 45 r q) with hl | ⟨x, hl⟩
                  · refine pw_iconst (pc2 := 303) (v := 0) dL_isSound_302 rfl (by decide) ?_
                    refine pw_istore (pc2 := 305) (L2 := [(10, Value.int 0), (9, Value.int (vG σ (σ.2.2 45 r q))), (8, Value.int (nI q)), (7, Value.int (hyN σ r q)), (6, Value.int 1), (5, Value.int (nI r)), (4, Value.int (gdN σ (r + 1))), (3, Value.int (nI (npk σ))), (2, Value.int (nI (nrl σ))), (1, Value.ref (A 60 0)), (0, Value.ref (A 0 0))]) dL_isSound_303 rfl (by decide) rfl ?_
                    refine pw_iload (pc2 := 307) dL_isSound_305 rfl 0 rfl ?_
                    refine pw_iload_n (pc2 := 308) dL_isSound_307 rfl rfl 8 rfl ?_
                    refine pw_icmp_ge (tgt := 366) (pc2 := 311) dL_isSound_308 (by decide) rfl (fun c308 => ?_) (fun c308 => ?_)
                    · refine pw_iinc (pc2 := 369) (v := nI (q + 1)) (L2 := [(8, Value.int (nI (q + 1))), (10, Value.int 0), (9, Value.int (vG σ (σ.2.2 45 r q))), (7, Value.int (hyN σ r q)), (6, Value.int 1), (5, Value.int (nI r)), (4, Value.int (gdN σ (r + 1))), (3, Value.int (nI (npk σ))), (2, Value.int (nI (nrl σ))), (1, Value.ref (A 60 0)), (0, Value.ref (A 0 0))]) dL_isSound_366 rfl 2 rfl (by show nI _ + 1 = nI _; exact nI_1 _) (by decide) rfl ?_
                      refine pw_goto (tgt := 250) dL_isSound_369 (by decide) ?_
                      rw [← hyN_n hl]
                      refine PW.sub (L2 := [(8, Value.int (nI (q + 1))), (7, Value.int (hyN σ r (q + 1))), (6, Value.int 1), (5, Value.int (nI r)), (4, Value.int (gdN σ (r + 1))), (3, Value.int (nI (npk σ))), (2, Value.int (nI (nrl σ))), (1, Value.ref (A 60 0)), (0, Value.ref (A 0 0))]) [0, 3, 4, 5, 6, 7, 8, 9, 10] rfl ?_
                      refine PW.widen (kc' := k3 * 20 + k4 * 3 + 110) (ks' := k3 * 120 + k4 * 18 + 660) (by omega) (by omega) ?_
                      exact ih4 (q + 1) h14 (by omega) W14
                    · refine pw_iload (pc2 := 313) dL_isSound_311 rfl 1 rfl ?_
                      refine pw_if_le (tgt := 366) (pc2 := 316) dL_isSound_313 (by decide) rfl (fun _ => ?_) (fun c313 => by exact absurd (lk_non hl) c313)
                      refine pw_iinc (pc2 := 369) (v := nI (q + 1)) (L2 := [(8, Value.int (nI (q + 1))), (10, Value.int 0), (9, Value.int (vG σ (σ.2.2 45 r q))), (7, Value.int (hyN σ r q)), (6, Value.int 1), (5, Value.int (nI r)), (4, Value.int (gdN σ (r + 1))), (3, Value.int (nI (npk σ))), (2, Value.int (nI (nrl σ))), (1, Value.ref (A 60 0)), (0, Value.ref (A 0 0))]) dL_isSound_366 rfl 2 rfl (by show nI _ + 1 = nI _; exact nI_1 _) (by decide) rfl ?_
                      refine pw_goto (tgt := 250) dL_isSound_369 (by decide) ?_
                      rw [← hyN_n hl]
                      refine PW.sub (L2 := [(8, Value.int (nI (q + 1))), (7, Value.int (hyN σ r (q + 1))), (6, Value.int 1), (5, Value.int (nI r)), (4, Value.int (gdN σ (r + 1))), (3, Value.int (nI (npk σ))), (2, Value.int (nI (nrl σ))), (1, Value.ref (A 60 0)), (0, Value.ref (A 0 0))]) [0, 3, 4, 5, 6, 7, 8, 9, 10] rfl ?_
                      refine PW.widen (kc' := k3 * 20 + k4 * 3 + 110) (ks' := k3 * 120 + k4 * 18 + 660) (by omega) (by omega) ?_
                      exact ih4 (q + 1) h14 (by omega) W14
                  · have hx1 : ofr x = q := ((HJ.2.2.2.1.1 r hi3).1 q x hl).1
                    have hx2 : x < nrl σ := HW.p45 hi3 q x hl
                    refine pw_iconst (pc2 := 303) (v := 0) dL_isSound_302 rfl (by decide) ?_
                    refine pw_istore (pc2 := 305) (L2 := [(10, Value.int 0), (9, Value.int (vG σ (σ.2.2 45 r q))), (8, Value.int (nI q)), (7, Value.int (hyN σ r q)), (6, Value.int 1), (5, Value.int (nI r)), (4, Value.int (gdN σ (r + 1))), (3, Value.int (nI (npk σ))), (2, Value.int (nI (nrl σ))), (1, Value.ref (A 60 0)), (0, Value.ref (A 0 0))]) dL_isSound_303 rfl (by decide) rfl ?_
                    rw [kyN_0 (σ := σ) (r := r) (n := q) (x := x)]
                    have lp5 : ∀ (k5 k9 : Nat) (h5 : hp), k9 + k5 = nrl σ → WS G h5 A σ → PW G ML_isSound d noA (E0 G (QL G A σ (.int 1)) noX) (k3 * 20 + k4 * 3 + k5 * 0 + 110) (k3 * 120 + k4 * 18 + k5 * 0 + 660) 305 [(10, Value.int (nI k9)), (9, Value.int (vG σ (σ.2.2 45 r q))), (8, Value.int (nI q)), (7, Value.int (kyN σ r q x k9)), (6, Value.int 1), (5, Value.int (nI r)), (4, Value.int (gdN σ (r + 1))), (3, Value.int (nI (npk σ))), (2, Value.int (nI (nrl σ))), (1, Value.ref (A 60 0)), (0, Value.ref (A 0 0))] [] h5 := by
                      intro k5
                      induction k5 with
                      | zero =>
                        intro k9 h5 hik5 W5
                        have hi5 : nrl σ = k9 := by omega
                        subst hi5
                        refine PW.widen (kc' := k3 * 20 + k4 * 3 + 110) (ks' := k3 * 120 + k4 * 18 + 660) (by omega) (by omega) ?_
                        refine pw_iload (pc2 := 307) dL_isSound_305 rfl 0 rfl ?_
                        refine pw_iload_n (pc2 := 308) dL_isSound_307 rfl rfl 8 rfl ?_
                        refine pw_icmp_ge (tgt := 366) (pc2 := 311) dL_isSound_308 (by decide) rfl (fun _ => ?_) (fun c308 => by exact absurd (Int32.le_refl _) c308)
                        refine pw_iinc (pc2 := 369) (v := nI (q + 1)) (L2 := [(8, Value.int (nI (q + 1))), (10, Value.int (nI (nrl σ))), (9, Value.int (vG σ (σ.2.2 45 r q))), (7, Value.int (kyN σ r q x (nrl σ))), (6, Value.int 1), (5, Value.int (nI r)), (4, Value.int (gdN σ (r + 1))), (3, Value.int (nI (npk σ))), (2, Value.int (nI (nrl σ))), (1, Value.ref (A 60 0)), (0, Value.ref (A 0 0))]) dL_isSound_366 rfl 2 rfl (by show nI _ + 1 = nI _; exact nI_1 _) (by decide) rfl ?_
                        refine pw_goto (tgt := 250) dL_isSound_369 (by decide) ?_
                        rw [kyN_e hl hx2]
                        refine PW.sub (L2 := [(8, Value.int (nI (q + 1))), (7, Value.int (hyN σ r (q + 1))), (6, Value.int 1), (5, Value.int (nI r)), (4, Value.int (gdN σ (r + 1))), (3, Value.int (nI (npk σ))), (2, Value.int (nI (nrl σ))), (1, Value.ref (A 60 0)), (0, Value.ref (A 0 0))]) [0, 3, 4, 5, 6, 7, 8, 9, 10] rfl ?_
                        refine PW.widen (kc' := k3 * 20 + k4 * 3 + 110) (ks' := k3 * 120 + k4 * 18 + 660) (by omega) (by omega) ?_
                        exact ih4 (q + 1) h5 (by omega) W5
                      | succ k5 ih5 =>
                        intro k9 h5 hik5 W5
                        have hi5 : k9 < nrl σ := by omega
                        refine PW.widen (kc' := k3 * 20 + k4 * 3 + k5 * 0 + 110) (ks' := k3 * 120 + k4 * 18 + k5 * 0 + 660) (by omega) (by omega) ?_
                        refine pw_iload (pc2 := 307) dL_isSound_305 rfl 0 rfl ?_
                        refine pw_iload_n (pc2 := 308) dL_isSound_307 rfl rfl 8 rfl ?_
                        refine pw_icmp_ge (tgt := 366) (pc2 := 311) dL_isSound_308 (by decide) rfl (fun c308 => by exact absurd c308 (fun z => by have := (nI_leI (a := nrl σ) (b := k9) (by omega) (by omega)).mp z; omega)) (fun _ => ?_)
                        refine pw_iload (pc2 := 313) dL_isSound_311 rfl 1 rfl ?_
                        refine pw_if_le (tgt := 366) (pc2 := 316) dL_isSound_313 (by decide) rfl (fun c313 => by exact absurd c313 (lk_pos HW HJ hi3 hl)) (fun _ => ?_)
                        refine pw_iload (pc2 := 318) dL_isSound_316 rfl 3 rfl ?_
                        by_cases hK : KY σ r q x k9
                        · refine pw_topE (y := 1) (kyN_1 hK) ?_
                          refine pw_if_ne (tgt := 353) (pc2 := 321) dL_isSound_318 (by decide) rfl (fun _ => ?_) (fun c318 => by exact absurd c318 (by decide))
                          refine pw_iconst (pc2 := 354) (v := 1) dL_isSound_353 rfl (by decide) ?_
                          refine pw_goto (tgt := 358) dL_isSound_354 (by decide) ?_
                          refine pw_topE (y := kyN σ r q x (k9 + 1)) ((kyN_1 (KY_s hK)).symm) ?_
                          refine pw_istore (pc2 := 360) (L2 := [(7, Value.int (kyN σ r q x (k9 + 1))), (10, Value.int (nI k9)), (9, Value.int (vG σ (σ.2.2 45 r q))), (8, Value.int (nI q)), (6, Value.int 1), (5, Value.int (nI r)), (4, Value.int (gdN σ (r + 1))), (3, Value.int (nI (npk σ))), (2, Value.int (nI (nrl σ))), (1, Value.ref (A 60 0)), (0, Value.ref (A 0 0))]) dL_isSound_358 rfl (by decide) rfl ?_
                          refine pw_iinc (pc2 := 363) (v := nI (k9 + 1)) (L2 := [(10, Value.int (nI (k9 + 1))), (7, Value.int (kyN σ r q x (k9 + 1))), (9, Value.int (vG σ (σ.2.2 45 r q))), (8, Value.int (nI q)), (6, Value.int 1), (5, Value.int (nI r)), (4, Value.int (gdN σ (r + 1))), (3, Value.int (nI (npk σ))), (2, Value.int (nI (nrl σ))), (1, Value.ref (A 60 0)), (0, Value.ref (A 0 0))]) dL_isSound_360 rfl 1 rfl (by show nI _ + 1 = nI _; exact nI_1 _) (by decide) rfl ?_
                          refine pw_goto (tgt := 305) dL_isSound_363 (by decide) ?_
                          refine PW.sub (L2 := [(10, Value.int (nI (k9 + 1))), (9, Value.int (vG σ (σ.2.2 45 r q))), (8, Value.int (nI q)), (7, Value.int (kyN σ r q x (k9 + 1))), (6, Value.int 1), (5, Value.int (nI r)), (4, Value.int (gdN σ (r + 1))), (3, Value.int (nI (npk σ))), (2, Value.int (nI (nrl σ))), (1, Value.ref (A 60 0)), (0, Value.ref (A 0 0))]) [0, 2, 3, 1, 4, 5, 6, 7, 8, 9, 10] rfl ?_
                          refine PW.widen (kc' := k3 * 20 + k4 * 3 + k5 * 0 + 110) (ks' := k3 * 120 + k4 * 18 + k5 * 0 + 660) (by omega) (by omega) ?_
                          exact ih5 (k9 + 1) h5 (by omega) W5
                        · refine pw_topE (y := 0) (kyN_f hK) ?_
                          refine pw_if_ne (tgt := 353) (pc2 := 321) dL_isSound_318 (by decide) rfl (fun c318 => by exact absurd (by decide) c318) (fun _ => ?_)
                          refine pw_aload_n (pc2 := 322) dL_isSound_321 rfl rfl 9 rfl (by first | exact rf_ref _ | exact rf_opt _ | exact rf_nul) ?_
                          refine pw_iload (pc2 := 324) dL_isSound_322 rfl 0 rfl ?_
                          refine pw_aaldN (pc2 := 325) 6 rfl rfl W5.c60 (i := k9) (by first | assumption | omega) (by omega) dL_isSound_324 rfl ?_
                          refine pw_topV (rowv (by first | assumption | omega)) ?_
                          refine pw_iconst (pc2 := 326) (v := 0) dL_isSound_325 rfl (by decide) ?_
                          refine pw_ialdN (pc2 := 327) (W5.c61 (by omega)) (i := 0) (by first | assumption | omega) (by omega) dL_isSound_326 rfl ?_
                          refine pw_topE (y := nI (ofr k9)) ((HD k9 hi5).1) ?_
                          refine pw_iload (pc2 := 329) dL_isSound_327 rfl 2 rfl ?_
                          refine pw_icmp_ne (tgt := 357) (pc2 := 332) dL_isSound_329 (by decide) rfl (fun c329 => ?_) (fun c329 => ?_)
                          · refine pw_iconst (pc2 := 358) (v := 0) dL_isSound_357 rfl (by decide) ?_
                            refine pw_topE (y := kyN σ r q x (k9 + 1)) ((kyN_f (KY_n hK (Or.inl (fun z => c329 (by rw [z, hx1]))))).symm) ?_
                            refine pw_istore (pc2 := 360) (L2 := [(7, Value.int (kyN σ r q x (k9 + 1))), (10, Value.int (nI k9)), (9, Value.int (vG σ (σ.2.2 45 r q))), (8, Value.int (nI q)), (6, Value.int 1), (5, Value.int (nI r)), (4, Value.int (gdN σ (r + 1))), (3, Value.int (nI (npk σ))), (2, Value.int (nI (nrl σ))), (1, Value.ref (A 60 0)), (0, Value.ref (A 0 0))]) dL_isSound_358 rfl (by decide) rfl ?_
                            refine pw_iinc (pc2 := 363) (v := nI (k9 + 1)) (L2 := [(10, Value.int (nI (k9 + 1))), (7, Value.int (kyN σ r q x (k9 + 1))), (9, Value.int (vG σ (σ.2.2 45 r q))), (8, Value.int (nI q)), (6, Value.int 1), (5, Value.int (nI r)), (4, Value.int (gdN σ (r + 1))), (3, Value.int (nI (npk σ))), (2, Value.int (nI (nrl σ))), (1, Value.ref (A 60 0)), (0, Value.ref (A 0 0))]) dL_isSound_360 rfl 1 rfl (by show nI _ + 1 = nI _; exact nI_1 _) (by decide) rfl ?_
                            refine pw_goto (tgt := 305) dL_isSound_363 (by decide) ?_
                            refine PW.sub (L2 := [(10, Value.int (nI (k9 + 1))), (9, Value.int (vG σ (σ.2.2 45 r q))), (8, Value.int (nI q)), (7, Value.int (kyN σ r q x (k9 + 1))), (6, Value.int 1), (5, Value.int (nI r)), (4, Value.int (gdN σ (r + 1))), (3, Value.int (nI (npk σ))), (2, Value.int (nI (nrl σ))), (1, Value.ref (A 60 0)), (0, Value.ref (A 0 0))]) [0, 2, 3, 1, 4, 5, 6, 7, 8, 9, 10] rfl ?_
                            refine PW.widen (kc' := k3 * 20 + k4 * 3 + k5 * 0 + 110) (ks' := k3 * 120 + k4 * 18 + k5 * 0 + 660) (by omega) (by omega) ?_
                            exact ih5 (k9 + 1) h5 (by omega) W5
                          · refine pw_aload_n (pc2 := 333) dL_isSound_332 rfl rfl 9 rfl (by first | exact rf_ref _ | exact rf_opt _ | exact rf_nul) ?_
                            refine pw_iload (pc2 := 335) dL_isSound_333 rfl 0 rfl ?_
                            refine pw_aaldN (pc2 := 336) 6 rfl rfl W5.c60 (i := k9) (by first | assumption | omega) (by omega) dL_isSound_335 rfl ?_
                            refine pw_topV (rowv (by first | assumption | omega)) ?_
                            refine pw_iconst (pc2 := 337) (v := 1) dL_isSound_336 rfl (by decide) ?_
                            refine pw_ialdN (pc2 := 338) (W5.c61 (by omega)) (i := 1) (by first | assumption | omega) (by omega) dL_isSound_337 rfl ?_
                            refine pw_topE (y := σ.1 40 k9 0) ((HD k9 hi5).2.1) ?_
                            refine pw_iload (pc2 := 340) dL_isSound_338 rfl 1 rfl ?_
                            refine pw_icmp_ne (tgt := 357) (pc2 := 343) dL_isSound_340 (by decide) rfl (fun c340 => ?_) (fun c340 => ?_)
                            · refine pw_iconst (pc2 := 358) (v := 0) dL_isSound_357 rfl (by decide) ?_
                              refine pw_topE (y := kyN σ r q x (k9 + 1)) ((kyN_f (KY_n hK (Or.inl (fun z => c340 (by rw [z]; exact (congrArg (vG σ) hl).symm))))).symm) ?_
                              refine pw_istore (pc2 := 360) (L2 := [(7, Value.int (kyN σ r q x (k9 + 1))), (10, Value.int (nI k9)), (9, Value.int (vG σ (σ.2.2 45 r q))), (8, Value.int (nI q)), (6, Value.int 1), (5, Value.int (nI r)), (4, Value.int (gdN σ (r + 1))), (3, Value.int (nI (npk σ))), (2, Value.int (nI (nrl σ))), (1, Value.ref (A 60 0)), (0, Value.ref (A 0 0))]) dL_isSound_358 rfl (by decide) rfl ?_
                              refine pw_iinc (pc2 := 363) (v := nI (k9 + 1)) (L2 := [(10, Value.int (nI (k9 + 1))), (7, Value.int (kyN σ r q x (k9 + 1))), (9, Value.int (vG σ (σ.2.2 45 r q))), (8, Value.int (nI q)), (6, Value.int 1), (5, Value.int (nI r)), (4, Value.int (gdN σ (r + 1))), (3, Value.int (nI (npk σ))), (2, Value.int (nI (nrl σ))), (1, Value.ref (A 60 0)), (0, Value.ref (A 0 0))]) dL_isSound_360 rfl 1 rfl (by show nI _ + 1 = nI _; exact nI_1 _) (by decide) rfl ?_
                              refine pw_goto (tgt := 305) dL_isSound_363 (by decide) ?_
                              refine PW.sub (L2 := [(10, Value.int (nI (k9 + 1))), (9, Value.int (vG σ (σ.2.2 45 r q))), (8, Value.int (nI q)), (7, Value.int (kyN σ r q x (k9 + 1))), (6, Value.int 1), (5, Value.int (nI r)), (4, Value.int (gdN σ (r + 1))), (3, Value.int (nI (npk σ))), (2, Value.int (nI (nrl σ))), (1, Value.ref (A 60 0)), (0, Value.ref (A 0 0))]) [0, 2, 3, 1, 4, 5, 6, 7, 8, 9, 10] rfl ?_
                              refine PW.widen (kc' := k3 * 20 + k4 * 3 + k5 * 0 + 110) (ks' := k3 * 120 + k4 * 18 + k5 * 0 + 660) (by omega) (by omega) ?_
                              exact ih5 (k9 + 1) h5 (by omega) W5
                            · refine pw_aload_n (pc2 := 344) dL_isSound_343 rfl rfl 9 rfl (by first | exact rf_ref _ | exact rf_opt _ | exact rf_nul) ?_
                              refine pw_iload (pc2 := 346) dL_isSound_344 rfl 0 rfl ?_
                              refine pw_aaldN (pc2 := 347) 6 rfl rfl W5.c60 (i := k9) (by first | assumption | omega) (by omega) dL_isSound_346 rfl ?_
                              refine pw_topV (rowv (by first | assumption | omega)) ?_
                              refine pw_iconst (pc2 := 348) (v := 2) dL_isSound_347 rfl (by decide) ?_
                              refine pw_ialdN (pc2 := 349) (W5.c61 (by omega)) (i := 2) (by first | assumption | omega) (by omega) dL_isSound_348 rfl ?_
                              refine pw_topE (y := σ.1 40 k9 2) ((HD k9 hi5).2.2) ?_
                              refine pw_iconst (pc2 := 350) (v := 1) dL_isSound_349 rfl (by decide) ?_
                              refine pw_icmp_ne (tgt := 357) (pc2 := 353) dL_isSound_350 (by decide) rfl (fun c350 => ?_) (fun c350 => ?_)
                              · refine pw_iconst (pc2 := 358) (v := 0) dL_isSound_357 rfl (by decide) ?_
                                refine pw_topE (y := kyN σ r q x (k9 + 1)) ((kyN_f (KY_n hK (ne_or0 (HW.b40 hx2) c350))).symm) ?_
                                refine pw_istore (pc2 := 360) (L2 := [(7, Value.int (kyN σ r q x (k9 + 1))), (10, Value.int (nI k9)), (9, Value.int (vG σ (σ.2.2 45 r q))), (8, Value.int (nI q)), (6, Value.int 1), (5, Value.int (nI r)), (4, Value.int (gdN σ (r + 1))), (3, Value.int (nI (npk σ))), (2, Value.int (nI (nrl σ))), (1, Value.ref (A 60 0)), (0, Value.ref (A 0 0))]) dL_isSound_358 rfl (by decide) rfl ?_
                                refine pw_iinc (pc2 := 363) (v := nI (k9 + 1)) (L2 := [(10, Value.int (nI (k9 + 1))), (7, Value.int (kyN σ r q x (k9 + 1))), (9, Value.int (vG σ (σ.2.2 45 r q))), (8, Value.int (nI q)), (6, Value.int 1), (5, Value.int (nI r)), (4, Value.int (gdN σ (r + 1))), (3, Value.int (nI (npk σ))), (2, Value.int (nI (nrl σ))), (1, Value.ref (A 60 0)), (0, Value.ref (A 0 0))]) dL_isSound_360 rfl 1 rfl (by show nI _ + 1 = nI _; exact nI_1 _) (by decide) rfl ?_
                                refine pw_goto (tgt := 305) dL_isSound_363 (by decide) ?_
                                refine PW.sub (L2 := [(10, Value.int (nI (k9 + 1))), (9, Value.int (vG σ (σ.2.2 45 r q))), (8, Value.int (nI q)), (7, Value.int (kyN σ r q x (k9 + 1))), (6, Value.int 1), (5, Value.int (nI r)), (4, Value.int (gdN σ (r + 1))), (3, Value.int (nI (npk σ))), (2, Value.int (nI (nrl σ))), (1, Value.ref (A 60 0)), (0, Value.ref (A 0 0))]) [0, 2, 3, 1, 4, 5, 6, 7, 8, 9, 10] rfl ?_
                                refine PW.widen (kc' := k3 * 20 + k4 * 3 + k5 * 0 + 110) (ks' := k3 * 120 + k4 * 18 + k5 * 0 + 660) (by omega) (by omega) ?_
                                exact ih5 (k9 + 1) h5 (by omega) W5
                              · refine pw_iconst (pc2 := 354) (v := 1) dL_isSound_353 rfl (by decide) ?_
                                refine pw_goto (tgt := 358) dL_isSound_354 (by decide) ?_
                                refine pw_topE (y := kyN σ r q x (k9 + 1)) ((kyN_1 (Or.inr (by have ex : k9 = x := HJ.2.2.2.1.inj hi5 hx2 ((nI_inj (by have := HJ.2.2.1.1 k9 hi5; omega) (by omega) c329).trans hx1.symm) (c340.trans (congrArg (vG σ) hl)); exact ⟨by omega, by rw [← ex, c350]; decide⟩))).symm) ?_
                                refine pw_istore (pc2 := 360) (L2 := [(7, Value.int (kyN σ r q x (k9 + 1))), (10, Value.int (nI k9)), (9, Value.int (vG σ (σ.2.2 45 r q))), (8, Value.int (nI q)), (6, Value.int 1), (5, Value.int (nI r)), (4, Value.int (gdN σ (r + 1))), (3, Value.int (nI (npk σ))), (2, Value.int (nI (nrl σ))), (1, Value.ref (A 60 0)), (0, Value.ref (A 0 0))]) dL_isSound_358 rfl (by decide) rfl ?_
                                refine pw_iinc (pc2 := 363) (v := nI (k9 + 1)) (L2 := [(10, Value.int (nI (k9 + 1))), (7, Value.int (kyN σ r q x (k9 + 1))), (9, Value.int (vG σ (σ.2.2 45 r q))), (8, Value.int (nI q)), (6, Value.int 1), (5, Value.int (nI r)), (4, Value.int (gdN σ (r + 1))), (3, Value.int (nI (npk σ))), (2, Value.int (nI (nrl σ))), (1, Value.ref (A 60 0)), (0, Value.ref (A 0 0))]) dL_isSound_360 rfl 1 rfl (by show nI _ + 1 = nI _; exact nI_1 _) (by decide) rfl ?_
                                refine pw_goto (tgt := 305) dL_isSound_363 (by decide) ?_
                                refine PW.sub (L2 := [(10, Value.int (nI (k9 + 1))), (9, Value.int (vG σ (σ.2.2 45 r q))), (8, Value.int (nI q)), (7, Value.int (kyN σ r q x (k9 + 1))), (6, Value.int 1), (5, Value.int (nI r)), (4, Value.int (gdN σ (r + 1))), (3, Value.int (nI (npk σ))), (2, Value.int (nI (nrl σ))), (1, Value.ref (A 60 0)), (0, Value.ref (A 0 0))]) [0, 2, 3, 1, 4, 5, 6, 7, 8, 9, 10] rfl ?_
                                refine PW.widen (kc' := k3 * 20 + k4 * 3 + k5 * 0 + 110) (ks' := k3 * 120 + k4 * 18 + k5 * 0 + 660) (by omega) (by omega) ?_
                                exact ih5 (k9 + 1) h5 (by omega) W5
                    refine PW.sub (L2 := [(10, Value.int 0), (9, Value.int (vG σ (σ.2.2 45 r q))), (8, Value.int (nI q)), (7, Value.int (kyN σ r q x 0)), (6, Value.int 1), (5, Value.int (nI r)), (4, Value.int (gdN σ (r + 1))), (3, Value.int (nI (npk σ))), (2, Value.int (nI (nrl σ))), (1, Value.ref (A 60 0)), (0, Value.ref (A 0 0))]) [0, 1, 2, 3, 4, 5, 6, 7, 8, 9, 10] rfl ?_
                    refine PW.widen (kc' := k3 * 20 + k4 * 3 + (nrl σ - 0) * 0 + 110) (ks' := k3 * 120 + k4 * 18 + (nrl σ - 0) * 0 + 660) (by omega) (by omega) ?_
                    exact lp5 (nrl σ - 0) 0 h14 (by omega) W14
            refine PW.sub (L2 := [(8, Value.int 0), (7, Value.int (hyN σ r 0)), (6, Value.int 1), (5, Value.int (nI r)), (4, Value.int (gdN σ (r + 1))), (3, Value.int (nI (npk σ))), (2, Value.int (nI (nrl σ))), (1, Value.ref (A 60 0)), (0, Value.ref (A 0 0))]) [0, 1, 3, 4, 2, 5, 6, 7, 8] rfl ?_
            refine PW.widen (kc' := k3 * 20 + (npk σ - 0) * 3 + 110) (ks' := k3 * 120 + (npk σ - 0) * 18 + 660) (by omega) (by omega) ?_
            exact lp4 (npk σ - 0) 0 h12 (by omega) W12
          · refine pw_topE (y := 0) (aSt_f hst) ?_
            refine pw_iconst (pc2 := 210) (v := 1) dL_isSound_209 rfl (by decide) ?_
            refine pw_icmp_ne (tgt := 217) (pc2 := 213) dL_isSound_210 (by decide) rfl (fun _ => ?_) (fun c210 => by exact absurd c210 (by decide))
            refine pw_iconst (pc2 := 218) (v := 0) dL_isSound_217 rfl (by decide) ?_
            refine pw_istore (pc2 := 220) (L2 := [(6, Value.int 0), (5, Value.int (nI r)), (4, Value.int (gdN σ r)), (3, Value.int (nI (npk σ))), (2, Value.int (nI (nrl σ))), (1, Value.ref (A 60 0)), (0, Value.ref (A 0 0))]) dL_isSound_218 rfl (by decide) rfl ?_
            refine pw_iload (pc2 := 222) dL_isSound_220 rfl 2 rfl ?_
            refine pw_aload_n (pc2 := 223) dL_isSound_222 rfl rfl 5 rfl (by first | exact rf_ref _ | exact rf_opt _ | exact rf_nul) ?_
            refine pw_iload (pc2 := 225) dL_isSound_223 rfl 1 rfl ?_
            refine pw_aaldN (pc2 := 226) 6 rfl rfl W12.c60 (i := r) (by first | assumption | omega) (by omega) dL_isSound_225 rfl ?_
            refine pw_topV (rowv (by first | assumption | omega)) ?_
            refine pw_iconst (pc2 := 227) (v := 2) dL_isSound_226 rfl (by decide) ?_
            refine pw_ialdN (pc2 := 228) (W12.c61 (by omega)) (i := 2) (by first | assumption | omega) (by omega) dL_isSound_227 rfl ?_
            refine pw_topE (y := σ.1 40 r 2) ((HD r hi3).2.2) ?_
            refine pw_if_ne (tgt := 240) (pc2 := 231) dL_isSound_228 (by decide) rfl (fun c228 => ?_) (fun c228 => ?_)
            · refine pw_iconst (pc2 := 241) (v := 0) dL_isSound_240 rfl (by decide) ?_
              refine pw_iadd (pc2 := 242) dL_isSound_241 rfl ?_
              refine pw_topE (y := gdN σ (r + 1)) ((Int32.add_zero _).trans (dit_f (fun z => c228 z.1)).symm) ?_
              refine pw_istore (pc2 := 244) (L2 := [(4, Value.int (gdN σ (r + 1))), (6, Value.int 0), (5, Value.int (nI r)), (3, Value.int (nI (npk σ))), (2, Value.int (nI (nrl σ))), (1, Value.ref (A 60 0)), (0, Value.ref (A 0 0))]) dL_isSound_242 rfl (by decide) rfl ?_
              refine pw_iconst (pc2 := 245) (v := 0) dL_isSound_244 rfl (by decide) ?_
              refine pw_topE (y := hyN σ r 0) ((hyN_0 r).symm) ?_
              refine pw_istore (pc2 := 247) (L2 := [(7, Value.int (hyN σ r 0)), (4, Value.int (gdN σ (r + 1))), (6, Value.int 0), (5, Value.int (nI r)), (3, Value.int (nI (npk σ))), (2, Value.int (nI (nrl σ))), (1, Value.ref (A 60 0)), (0, Value.ref (A 0 0))]) dL_isSound_245 rfl (by decide) rfl ?_
              refine pw_iconst (pc2 := 248) (v := 0) dL_isSound_247 rfl (by decide) ?_
              refine pw_istore (pc2 := 250) (L2 := [(8, Value.int 0), (7, Value.int (hyN σ r 0)), (4, Value.int (gdN σ (r + 1))), (6, Value.int 0), (5, Value.int (nI r)), (3, Value.int (nI (npk σ))), (2, Value.int (nI (nrl σ))), (1, Value.ref (A 60 0)), (0, Value.ref (A 0 0))]) dL_isSound_248 rfl (by decide) rfl ?_
              have lp4 : ∀ (k4 q : Nat) (h4 : hp), q + k4 = npk σ → WS G h4 A σ → PW G ML_isSound d noA (E0 G (QL G A σ (.int 1)) noX) (k3 * 20 + k4 * 3 + 110) (k3 * 120 + k4 * 18 + 660) 250 [(8, Value.int (nI q)), (7, Value.int (hyN σ r q)), (6, Value.int 0), (5, Value.int (nI r)), (4, Value.int (gdN σ (r + 1))), (3, Value.int (nI (npk σ))), (2, Value.int (nI (nrl σ))), (1, Value.ref (A 60 0)), (0, Value.ref (A 0 0))] [] h4 := by
                intro k4
                induction k4 with
                | zero =>
                  intro q h4 hik4 W4
                  have hi4 : npk σ = q := by omega
                  subst hi4
                  refine PW.widen (kc' := k3 * 20 + 110) (ks' := k3 * 120 + 660) (by omega) (by omega) ?_
                  refine pw_iload (pc2 := 252) dL_isSound_250 rfl 0 rfl ?_
                  refine pw_iload_n (pc2 := 253) dL_isSound_252 rfl rfl 5 rfl ?_
                  refine pw_icmp_ge (tgt := 372) (pc2 := 256) dL_isSound_253 (by decide) rfl (fun _ => ?_) (fun c253 => by exact absurd (Int32.le_refl _) c253)
                  refine pw_iload (pc2 := 374) dL_isSound_372 rfl 2 rfl ?_
                  refine pw_iload (pc2 := 376) dL_isSound_374 rfl 1 rfl ?_
                  by_cases hH : HY σ r (npk σ)
                  · refine pw_topE (y := 1) (hyN_1 hH) ?_
                    refine pw_if_eq (tgt := 392) (pc2 := 379) dL_isSound_376 (by decide) rfl (fun c376 => by exact absurd c376 (by decide)) (fun _ => ?_)
                    refine pw_aload_n (pc2 := 380) dL_isSound_379 rfl rfl 7 rfl (by first | exact rf_ref _ | exact rf_opt _ | exact rf_nul) ?_
                    refine pw_iload (pc2 := 382) dL_isSound_380 rfl 3 rfl ?_
                    refine pw_aaldN (pc2 := 383) 6 rfl rfl W4.c60 (i := r) (by first | assumption | omega) (by omega) dL_isSound_382 rfl ?_
                    refine pw_topV (rowv (by first | assumption | omega)) ?_
                    refine pw_iconst (pc2 := 384) (v := 2) dL_isSound_383 rfl (by decide) ?_
                    refine pw_ialdN (pc2 := 385) (W4.c61 (by omega)) (i := 2) (by first | assumption | omega) (by omega) dL_isSound_384 rfl ?_
                    refine pw_topE (y := σ.1 40 r 2) ((HD r hi3).2.2) ?_
                    refine pw_if_ne (tgt := 392) (pc2 := 388) dL_isSound_385 (by decide) rfl (fun _ => ?_) (fun c385 => by exact absurd c385 (fun z => hst ((stl_HY HW HJ hi3).mpr ⟨z, hH⟩)))
                    refine pw_iconst (pc2 := 393) (v := 0) dL_isSound_392 rfl (by decide) ?_
                    refine pw_icmp_eq (tgt := 398) (pc2 := 396) dL_isSound_393 (by decide) rfl (fun _ => ?_) (fun c393 => by exact absurd (by decide) c393)
                    refine pw_iinc (pc2 := 401) (v := nI (r + 1)) (L2 := [(5, Value.int (nI (r + 1))), (8, Value.int (nI (npk σ))), (7, Value.int (hyN σ r (npk σ))), (6, Value.int 0), (4, Value.int (gdN σ (r + 1))), (3, Value.int (nI (npk σ))), (2, Value.int (nI (nrl σ))), (1, Value.ref (A 60 0)), (0, Value.ref (A 0 0))]) dL_isSound_398 rfl 3 rfl (by show nI _ + 1 = nI _; exact nI_1 _) (by decide) rfl ?_
                    refine pw_goto (tgt := 186) dL_isSound_401 (by decide) ?_
                    refine PW.sub (L2 := [(5, Value.int (nI (r + 1))), (4, Value.int (gdN σ (r + 1))), (3, Value.int (nI (npk σ))), (2, Value.int (nI (nrl σ))), (1, Value.ref (A 60 0)), (0, Value.ref (A 0 0))]) [0, 4, 5, 6, 7, 8] rfl ?_
                    refine PW.widen (kc' := k3 * 20 + 110) (ks' := k3 * 120 + 660) (by omega) (by omega) ?_
                    exact ih3 (r + 1) h4 (by omega) W4
                  · refine pw_topE (y := 0) (hyN_f hH) ?_
                    refine pw_if_eq (tgt := 392) (pc2 := 379) dL_isSound_376 (by decide) rfl (fun _ => ?_) (fun c376 => by exact absurd (by decide) c376)
                    refine pw_iconst (pc2 := 393) (v := 0) dL_isSound_392 rfl (by decide) ?_
                    refine pw_icmp_eq (tgt := 398) (pc2 := 396) dL_isSound_393 (by decide) rfl (fun _ => ?_) (fun c393 => by exact absurd (by decide) c393)
                    refine pw_iinc (pc2 := 401) (v := nI (r + 1)) (L2 := [(5, Value.int (nI (r + 1))), (8, Value.int (nI (npk σ))), (7, Value.int (hyN σ r (npk σ))), (6, Value.int 0), (4, Value.int (gdN σ (r + 1))), (3, Value.int (nI (npk σ))), (2, Value.int (nI (nrl σ))), (1, Value.ref (A 60 0)), (0, Value.ref (A 0 0))]) dL_isSound_398 rfl 3 rfl (by show nI _ + 1 = nI _; exact nI_1 _) (by decide) rfl ?_
                    refine pw_goto (tgt := 186) dL_isSound_401 (by decide) ?_
                    refine PW.sub (L2 := [(5, Value.int (nI (r + 1))), (4, Value.int (gdN σ (r + 1))), (3, Value.int (nI (npk σ))), (2, Value.int (nI (nrl σ))), (1, Value.ref (A 60 0)), (0, Value.ref (A 0 0))]) [0, 4, 5, 6, 7, 8] rfl ?_
                    refine PW.widen (kc' := k3 * 20 + 110) (ks' := k3 * 120 + 660) (by omega) (by omega) ?_
                    exact ih3 (r + 1) h4 (by omega) W4
                | succ k4 ih4 =>
                  intro q h4 hik4 W4
                  have hi4 : q < npk σ := by omega
                  refine PW.widen (kc' := k3 * 20 + k4 * 3 + 113) (ks' := k3 * 120 + k4 * 18 + 678) (by omega) (by omega) ?_
                  refine pw_iload (pc2 := 252) dL_isSound_250 rfl 0 rfl ?_
                  refine pw_iload_n (pc2 := 253) dL_isSound_252 rfl rfl 5 rfl ?_
                  refine pw_icmp_ge (tgt := 372) (pc2 := 256) dL_isSound_253 (by decide) rfl (fun c253 => by exact absurd c253 (fun z => by have := (nI_leI (a := npk σ) (b := q) (by omega) (by omega)).mp z; omega)) (fun _ => ?_)
                  refine pw_aload_n (pc2 := 257) dL_isSound_256 rfl rfl 8 rfl (by first | exact rf_ref _ | exact rf_opt _ | exact rf_nul) ?_
                  refine pw_aload_n (pc2 := 258) dL_isSound_257 rfl rfl 7 rfl (by first | exact rf_ref _ | exact rf_opt _ | exact rf_nul) ?_
                  refine pw_iload (pc2 := 260) dL_isSound_258 rfl 3 rfl ?_
                  refine pw_aaldN (pc2 := 261) 6 rfl rfl W4.c60 (i := r) (by first | assumption | omega) (by omega) dL_isSound_260 rfl ?_
                  refine pw_topV (rowv (by first | assumption | omega)) ?_
                  refine pw_iconst (pc2 := 262) (v := 0) dL_isSound_261 rfl (by decide) ?_
                  refine pw_ialdN (pc2 := 263) (W4.c61 (by omega)) (i := 0) (by first | assumption | omega) (by omega) dL_isSound_262 rfl ?_
                  refine pw_topE (y := nI (ofr r)) ((HD r hi3).1) ?_
                  refine pw_aload_n (pc2 := 264) dL_isSound_263 rfl rfl 7 rfl (by first | exact rf_ref _ | exact rf_opt _ | exact rf_nul) ?_
                  refine pw_iload (pc2 := 266) dL_isSound_264 rfl 3 rfl ?_
                  refine pw_aaldN (pc2 := 267) 6 rfl rfl W4.c60 (i := r) (by first | assumption | omega) (by omega) dL_isSound_266 rfl ?_
                  refine pw_topV (rowv (by first | assumption | omega)) ?_
                  refine pw_iconst (pc2 := 268) (v := 1) dL_isSound_267 rfl (by decide) ?_
                  refine pw_ialdN (pc2 := 269) (W4.c61 (by omega)) (i := 1) (by first | assumption | omega) (by omega) dL_isSound_268 rfl ?_
                  refine pw_topE (y := σ.1 40 r 0) ((HD r hi3).2.1) ?_
                  refine pw_bipush (pc2 := 271) (v := 10) dL_isSound_269 rfl (by decide) ?_
                  refine pw_iload (pc2 := 273) dL_isSound_271 rfl 0 rfl ?_
                  refine pw_iadd (pc2 := 274) dL_isSound_273 rfl ?_
                  refine pw_topE (y := nI (10 + q)) (nI_add_ 10 q) ?_
                  refine PW.widen (kc' := k3 * 20 + k4 * 3 + 110 + 3) (ks' := k3 * 120 + k4 * 18 + 660 + 18) (by omega) (by omega) ?_
                  refine pw_lookS (kc := k3 * 20 + k4 * 3 + 110) (ks := k3 * 120 + k4 * 18 + 660) (pc2 := 277) (k_relL W4 HJ hi3 hi4) cs_L_152 rfl dL_isSound_274 rfl (by omega) rfl (by first | decide | simp [cat_rf, Value.category]) (fun h33 W33 => ?_)
                  refine pw_istore (pc2 := 279) (L2 := [(9, Value.int (vG σ (σ.2.2 45 r q))), (8, Value.int (nI q)), (7, Value.int (hyN σ r q)), (6, Value.int 0), (5, Value.int (nI r)), (4, Value.int (gdN σ (r + 1))), (3, Value.int (nI (npk σ))), (2, Value.int (nI (nrl σ))), (1, Value.ref (A 60 0)), (0, Value.ref (A 0 0))]) dL_isSound_277 rfl (by decide) rfl ?_
                  refine pw_iload (pc2 := 281) dL_isSound_279 rfl 0 rfl ?_
                  refine pw_if_lt (tgt := 300) (pc2 := 284) dL_isSound_281 (by decide) rfl (fun c281 => by exact absurd c281 (lk_nn HW HJ hi3 q)) (fun _ => ?_)
                  refine pw_iload (pc2 := 286) dL_isSound_284 rfl 1 rfl ?_
                  refine pw_aload_n (pc2 := 287) dL_isSound_286 rfl rfl 8 rfl (by first | exact rf_ref _ | exact rf_opt _ | exact rf_nul) ?_
                  refine pw_iload (pc2 := 289) dL_isSound_287 rfl 4 rfl ?_
                  refine pw_aaldN (pc2 := 290) 6 rfl rfl W33.c60 (i := r) (by first | assumption | omega) (by omega) dL_isSound_289 rfl ?_
                  refine pw_topV (rowv (by first | assumption | omega)) ?_
                  refine pw_iconst (pc2 := 291) (v := 0) dL_isSound_290 rfl (by decide) ?_
                  refine pw_ialdN (pc2 := 292) (W33.c61 (by omega)) (i := 0) (by first | assumption | omega) (by omega) dL_isSound_291 rfl ?_
                  refine pw_topE (y := nI (ofr r)) ((HD r hi3).1) ?_
                  refine pw_icmp_lt (tgt := 302) (pc2 := 295) dL_isSound_292 (by decide) rfl (fun c292 => ?_) (fun c292 => ?_)
                  · rcases opt_cases (σ.2.2 45 r q) with hl | ⟨x, hl⟩
                    · refine pw_iconst (pc2 := 303) (v := 0) dL_isSound_302 rfl (by decide) ?_
                      refine pw_istore (pc2 := 305) (L2 := [(10, Value.int 0), (9, Value.int (vG σ (σ.2.2 45 r q))), (8, Value.int (nI q)), (7, Value.int (hyN σ r q)), (6, Value.int 0), (5, Value.int (nI r)), (4, Value.int (gdN σ (r + 1))), (3, Value.int (nI (npk σ))), (2, Value.int (nI (nrl σ))), (1, Value.ref (A 60 0)), (0, Value.ref (A 0 0))]) dL_isSound_303 rfl (by decide) rfl ?_
                      refine pw_iload (pc2 := 307) dL_isSound_305 rfl 0 rfl ?_
                      refine pw_iload_n (pc2 := 308) dL_isSound_307 rfl rfl 8 rfl ?_
                      refine pw_icmp_ge (tgt := 366) (pc2 := 311) dL_isSound_308 (by decide) rfl (fun c308 => ?_) (fun c308 => ?_)
                      · refine pw_iinc (pc2 := 369) (v := nI (q + 1)) (L2 := [(8, Value.int (nI (q + 1))), (10, Value.int 0), (9, Value.int (vG σ (σ.2.2 45 r q))), (7, Value.int (hyN σ r q)), (6, Value.int 0), (5, Value.int (nI r)), (4, Value.int (gdN σ (r + 1))), (3, Value.int (nI (npk σ))), (2, Value.int (nI (nrl σ))), (1, Value.ref (A 60 0)), (0, Value.ref (A 0 0))]) dL_isSound_366 rfl 2 rfl (by show nI _ + 1 = nI _; exact nI_1 _) (by decide) rfl ?_
                        refine pw_goto (tgt := 250) dL_isSound_369 (by decide) ?_
                        rw [← hyN_n hl]
                        refine PW.sub (L2 := [(8, Value.int (nI (q + 1))), (7, Value.int (hyN σ r (q + 1))), (6, Value.int 0), (5, Value.int (nI r)), (4, Value.int (gdN σ (r + 1))), (3, Value.int (nI (npk σ))), (2, Value.int (nI (nrl σ))), (1, Value.ref (A 60 0)), (0, Value.ref (A 0 0))]) [0, 3, 4, 5, 6, 7, 8, 9, 10] rfl ?_
                        refine PW.widen (kc' := k3 * 20 + k4 * 3 + 110) (ks' := k3 * 120 + k4 * 18 + 660) (by omega) (by omega) ?_
                        exact ih4 (q + 1) h33 (by omega) W33
                      · refine pw_iload (pc2 := 313) dL_isSound_311 rfl 1 rfl ?_
                        refine pw_if_le (tgt := 366) (pc2 := 316) dL_isSound_313 (by decide) rfl (fun _ => ?_) (fun c313 => by exact absurd (lk_non hl) c313)
                        refine pw_iinc (pc2 := 369) (v := nI (q + 1)) (L2 := [(8, Value.int (nI (q + 1))), (10, Value.int 0), (9, Value.int (vG σ (σ.2.2 45 r q))), (7, Value.int (hyN σ r q)), (6, Value.int 0), (5, Value.int (nI r)), (4, Value.int (gdN σ (r + 1))), (3, Value.int (nI (npk σ))), (2, Value.int (nI (nrl σ))), (1, Value.ref (A 60 0)), (0, Value.ref (A 0 0))]) dL_isSound_366 rfl 2 rfl (by show nI _ + 1 = nI _; exact nI_1 _) (by decide) rfl ?_
                        refine pw_goto (tgt := 250) dL_isSound_369 (by decide) ?_
                        rw [← hyN_n hl]
                        refine PW.sub (L2 := [(8, Value.int (nI (q + 1))), (7, Value.int (hyN σ r (q + 1))), (6, Value.int 0), (5, Value.int (nI r)), (4, Value.int (gdN σ (r + 1))), (3, Value.int (nI (npk σ))), (2, Value.int (nI (nrl σ))), (1, Value.ref (A 60 0)), (0, Value.ref (A 0 0))]) [0, 3, 4, 5, 6, 7, 8, 9, 10] rfl ?_
                        refine PW.widen (kc' := k3 * 20 + k4 * 3 + 110) (ks' := k3 * 120 + k4 * 18 + 660) (by omega) (by omega) ?_
                        exact ih4 (q + 1) h33 (by omega) W33
                    · have hx1 : ofr x = q := ((HJ.2.2.2.1.1 r hi3).1 q x hl).1
                      have hx2 : x < nrl σ := HW.p45 hi3 q x hl
                      refine pw_iconst (pc2 := 303) (v := 0) dL_isSound_302 rfl (by decide) ?_
                      refine pw_istore (pc2 := 305) (L2 := [(10, Value.int 0), (9, Value.int (vG σ (σ.2.2 45 r q))), (8, Value.int (nI q)), (7, Value.int (hyN σ r q)), (6, Value.int 0), (5, Value.int (nI r)), (4, Value.int (gdN σ (r + 1))), (3, Value.int (nI (npk σ))), (2, Value.int (nI (nrl σ))), (1, Value.ref (A 60 0)), (0, Value.ref (A 0 0))]) dL_isSound_303 rfl (by decide) rfl ?_
                      rw [kyN_0 (σ := σ) (r := r) (n := q) (x := x)]
                      have lp5 : ∀ (k5 k9 : Nat) (h5 : hp), k9 + k5 = nrl σ → WS G h5 A σ → PW G ML_isSound d noA (E0 G (QL G A σ (.int 1)) noX) (k3 * 20 + k4 * 3 + k5 * 0 + 110) (k3 * 120 + k4 * 18 + k5 * 0 + 660) 305 [(10, Value.int (nI k9)), (9, Value.int (vG σ (σ.2.2 45 r q))), (8, Value.int (nI q)), (7, Value.int (kyN σ r q x k9)), (6, Value.int 0), (5, Value.int (nI r)), (4, Value.int (gdN σ (r + 1))), (3, Value.int (nI (npk σ))), (2, Value.int (nI (nrl σ))), (1, Value.ref (A 60 0)), (0, Value.ref (A 0 0))] [] h5 := by
                        intro k5
                        induction k5 with
                        | zero =>
                          intro k9 h5 hik5 W5
                          have hi5 : nrl σ = k9 := by omega
                          subst hi5
                          refine PW.widen (kc' := k3 * 20 + k4 * 3 + 110) (ks' := k3 * 120 + k4 * 18 + 660) (by omega) (by omega) ?_
                          refine pw_iload (pc2 := 307) dL_isSound_305 rfl 0 rfl ?_
                          refine pw_iload_n (pc2 := 308) dL_isSound_307 rfl rfl 8 rfl ?_
                          refine pw_icmp_ge (tgt := 366) (pc2 := 311) dL_isSound_308 (by decide) rfl (fun _ => ?_) (fun c308 => by exact absurd (Int32.le_refl _) c308)
                          refine pw_iinc (pc2 := 369) (v := nI (q + 1)) (L2 := [(8, Value.int (nI (q + 1))), (10, Value.int (nI (nrl σ))), (9, Value.int (vG σ (σ.2.2 45 r q))), (7, Value.int (kyN σ r q x (nrl σ))), (6, Value.int 0), (5, Value.int (nI r)), (4, Value.int (gdN σ (r + 1))), (3, Value.int (nI (npk σ))), (2, Value.int (nI (nrl σ))), (1, Value.ref (A 60 0)), (0, Value.ref (A 0 0))]) dL_isSound_366 rfl 2 rfl (by show nI _ + 1 = nI _; exact nI_1 _) (by decide) rfl ?_
                          refine pw_goto (tgt := 250) dL_isSound_369 (by decide) ?_
                          rw [kyN_e hl hx2]
                          refine PW.sub (L2 := [(8, Value.int (nI (q + 1))), (7, Value.int (hyN σ r (q + 1))), (6, Value.int 0), (5, Value.int (nI r)), (4, Value.int (gdN σ (r + 1))), (3, Value.int (nI (npk σ))), (2, Value.int (nI (nrl σ))), (1, Value.ref (A 60 0)), (0, Value.ref (A 0 0))]) [0, 3, 4, 5, 6, 7, 8, 9, 10] rfl ?_
                          refine PW.widen (kc' := k3 * 20 + k4 * 3 + 110) (ks' := k3 * 120 + k4 * 18 + 660) (by omega) (by omega) ?_
                          exact ih4 (q + 1) h5 (by omega) W5
                        | succ k5 ih5 =>
                          intro k9 h5 hik5 W5
                          have hi5 : k9 < nrl σ := by omega
                          refine PW.widen (kc' := k3 * 20 + k4 * 3 + k5 * 0 + 110) (ks' := k3 * 120 + k4 * 18 + k5 * 0 + 660) (by omega) (by omega) ?_
                          refine pw_iload (pc2 := 307) dL_isSound_305 rfl 0 rfl ?_
                          refine pw_iload_n (pc2 := 308) dL_isSound_307 rfl rfl 8 rfl ?_
                          refine pw_icmp_ge (tgt := 366) (pc2 := 311) dL_isSound_308 (by decide) rfl (fun c308 => by exact absurd c308 (fun z => by have := (nI_leI (a := nrl σ) (b := k9) (by omega) (by omega)).mp z; omega)) (fun _ => ?_)
                          refine pw_iload (pc2 := 313) dL_isSound_311 rfl 1 rfl ?_
                          refine pw_if_le (tgt := 366) (pc2 := 316) dL_isSound_313 (by decide) rfl (fun c313 => by exact absurd c313 (lk_pos HW HJ hi3 hl)) (fun _ => ?_)
                          refine pw_iload (pc2 := 318) dL_isSound_316 rfl 3 rfl ?_
                          by_cases hK : KY σ r q x k9
                          · refine pw_topE (y := 1) (kyN_1 hK) ?_
                            refine pw_if_ne (tgt := 353) (pc2 := 321) dL_isSound_318 (by decide) rfl (fun _ => ?_) (fun c318 => by exact absurd c318 (by decide))
                            refine pw_iconst (pc2 := 354) (v := 1) dL_isSound_353 rfl (by decide) ?_
                            refine pw_goto (tgt := 358) dL_isSound_354 (by decide) ?_
                            refine pw_topE (y := kyN σ r q x (k9 + 1)) ((kyN_1 (KY_s hK)).symm) ?_
                            refine pw_istore (pc2 := 360) (L2 := [(7, Value.int (kyN σ r q x (k9 + 1))), (10, Value.int (nI k9)), (9, Value.int (vG σ (σ.2.2 45 r q))), (8, Value.int (nI q)), (6, Value.int 0), (5, Value.int (nI r)), (4, Value.int (gdN σ (r + 1))), (3, Value.int (nI (npk σ))), (2, Value.int (nI (nrl σ))), (1, Value.ref (A 60 0)), (0, Value.ref (A 0 0))]) dL_isSound_358 rfl (by decide) rfl ?_
                            refine pw_iinc (pc2 := 363) (v := nI (k9 + 1)) (L2 := [(10, Value.int (nI (k9 + 1))), (7, Value.int (kyN σ r q x (k9 + 1))), (9, Value.int (vG σ (σ.2.2 45 r q))), (8, Value.int (nI q)), (6, Value.int 0), (5, Value.int (nI r)), (4, Value.int (gdN σ (r + 1))), (3, Value.int (nI (npk σ))), (2, Value.int (nI (nrl σ))), (1, Value.ref (A 60 0)), (0, Value.ref (A 0 0))]) dL_isSound_360 rfl 1 rfl (by show nI _ + 1 = nI _; exact nI_1 _) (by decide) rfl ?_
                            refine pw_goto (tgt := 305) dL_isSound_363 (by decide) ?_
                            refine PW.sub (L2 := [(10, Value.int (nI (k9 + 1))), (9, Value.int (vG σ (σ.2.2 45 r q))), (8, Value.int (nI q)), (7, Value.int (kyN σ r q x (k9 + 1))), (6, Value.int 0), (5, Value.int (nI r)), (4, Value.int (gdN σ (r + 1))), (3, Value.int (nI (npk σ))), (2, Value.int (nI (nrl σ))), (1, Value.ref (A 60 0)), (0, Value.ref (A 0 0))]) [0, 2, 3, 1, 4, 5, 6, 7, 8, 9, 10] rfl ?_
                            refine PW.widen (kc' := k3 * 20 + k4 * 3 + k5 * 0 + 110) (ks' := k3 * 120 + k4 * 18 + k5 * 0 + 660) (by omega) (by omega) ?_
                            exact ih5 (k9 + 1) h5 (by omega) W5
                          · refine pw_topE (y := 0) (kyN_f hK) ?_
                            refine pw_if_ne (tgt := 353) (pc2 := 321) dL_isSound_318 (by decide) rfl (fun c318 => by exact absurd (by decide) c318) (fun _ => ?_)
                            refine pw_aload_n (pc2 := 322) dL_isSound_321 rfl rfl 9 rfl (by first | exact rf_ref _ | exact rf_opt _ | exact rf_nul) ?_
                            refine pw_iload (pc2 := 324) dL_isSound_322 rfl 0 rfl ?_
                            refine pw_aaldN (pc2 := 325) 6 rfl rfl W5.c60 (i := k9) (by first | assumption | omega) (by omega) dL_isSound_324 rfl ?_
                            refine pw_topV (rowv (by first | assumption | omega)) ?_
                            refine pw_iconst (pc2 := 326) (v := 0) dL_isSound_325 rfl (by decide) ?_
                            refine pw_ialdN (pc2 := 327) (W5.c61 (by omega)) (i := 0) (by first | assumption | omega) (by omega) dL_isSound_326 rfl ?_
                            refine pw_topE (y := nI (ofr k9)) ((HD k9 hi5).1) ?_
                            refine pw_iload (pc2 := 329) dL_isSound_327 rfl 2 rfl ?_
                            refine pw_icmp_ne (tgt := 357) (pc2 := 332) dL_isSound_329 (by decide) rfl (fun c329 => ?_) (fun c329 => ?_)
                            · refine pw_iconst (pc2 := 358) (v := 0) dL_isSound_357 rfl (by decide) ?_
                              refine pw_topE (y := kyN σ r q x (k9 + 1)) ((kyN_f (KY_n hK (Or.inl (fun z => c329 (by rw [z, hx1]))))).symm) ?_
                              refine pw_istore (pc2 := 360) (L2 := [(7, Value.int (kyN σ r q x (k9 + 1))), (10, Value.int (nI k9)), (9, Value.int (vG σ (σ.2.2 45 r q))), (8, Value.int (nI q)), (6, Value.int 0), (5, Value.int (nI r)), (4, Value.int (gdN σ (r + 1))), (3, Value.int (nI (npk σ))), (2, Value.int (nI (nrl σ))), (1, Value.ref (A 60 0)), (0, Value.ref (A 0 0))]) dL_isSound_358 rfl (by decide) rfl ?_
                              refine pw_iinc (pc2 := 363) (v := nI (k9 + 1)) (L2 := [(10, Value.int (nI (k9 + 1))), (7, Value.int (kyN σ r q x (k9 + 1))), (9, Value.int (vG σ (σ.2.2 45 r q))), (8, Value.int (nI q)), (6, Value.int 0), (5, Value.int (nI r)), (4, Value.int (gdN σ (r + 1))), (3, Value.int (nI (npk σ))), (2, Value.int (nI (nrl σ))), (1, Value.ref (A 60 0)), (0, Value.ref (A 0 0))]) dL_isSound_360 rfl 1 rfl (by show nI _ + 1 = nI _; exact nI_1 _) (by decide) rfl ?_
                              refine pw_goto (tgt := 305) dL_isSound_363 (by decide) ?_
                              refine PW.sub (L2 := [(10, Value.int (nI (k9 + 1))), (9, Value.int (vG σ (σ.2.2 45 r q))), (8, Value.int (nI q)), (7, Value.int (kyN σ r q x (k9 + 1))), (6, Value.int 0), (5, Value.int (nI r)), (4, Value.int (gdN σ (r + 1))), (3, Value.int (nI (npk σ))), (2, Value.int (nI (nrl σ))), (1, Value.ref (A 60 0)), (0, Value.ref (A 0 0))]) [0, 2, 3, 1, 4, 5, 6, 7, 8, 9, 10] rfl ?_
                              refine PW.widen (kc' := k3 * 20 + k4 * 3 + k5 * 0 + 110) (ks' := k3 * 120 + k4 * 18 + k5 * 0 + 660) (by omega) (by omega) ?_
                              exact ih5 (k9 + 1) h5 (by omega) W5
                            · refine pw_aload_n (pc2 := 333) dL_isSound_332 rfl rfl 9 rfl (by first | exact rf_ref _ | exact rf_opt _ | exact rf_nul) ?_
                              refine pw_iload (pc2 := 335) dL_isSound_333 rfl 0 rfl ?_
                              refine pw_aaldN (pc2 := 336) 6 rfl rfl W5.c60 (i := k9) (by first | assumption | omega) (by omega) dL_isSound_335 rfl ?_
                              refine pw_topV (rowv (by first | assumption | omega)) ?_
                              refine pw_iconst (pc2 := 337) (v := 1) dL_isSound_336 rfl (by decide) ?_
                              refine pw_ialdN (pc2 := 338) (W5.c61 (by omega)) (i := 1) (by first | assumption | omega) (by omega) dL_isSound_337 rfl ?_
                              refine pw_topE (y := σ.1 40 k9 0) ((HD k9 hi5).2.1) ?_
                              refine pw_iload (pc2 := 340) dL_isSound_338 rfl 1 rfl ?_
                              refine pw_icmp_ne (tgt := 357) (pc2 := 343) dL_isSound_340 (by decide) rfl (fun c340 => ?_) (fun c340 => ?_)
                              · refine pw_iconst (pc2 := 358) (v := 0) dL_isSound_357 rfl (by decide) ?_
                                refine pw_topE (y := kyN σ r q x (k9 + 1)) ((kyN_f (KY_n hK (Or.inl (fun z => c340 (by rw [z]; exact (congrArg (vG σ) hl).symm))))).symm) ?_
                                refine pw_istore (pc2 := 360) (L2 := [(7, Value.int (kyN σ r q x (k9 + 1))), (10, Value.int (nI k9)), (9, Value.int (vG σ (σ.2.2 45 r q))), (8, Value.int (nI q)), (6, Value.int 0), (5, Value.int (nI r)), (4, Value.int (gdN σ (r + 1))), (3, Value.int (nI (npk σ))), (2, Value.int (nI (nrl σ))), (1, Value.ref (A 60 0)), (0, Value.ref (A 0 0))]) dL_isSound_358 rfl (by decide) rfl ?_
                                refine pw_iinc (pc2 := 363) (v := nI (k9 + 1)) (L2 := [(10, Value.int (nI (k9 + 1))), (7, Value.int (kyN σ r q x (k9 + 1))), (9, Value.int (vG σ (σ.2.2 45 r q))), (8, Value.int (nI q)), (6, Value.int 0), (5, Value.int (nI r)), (4, Value.int (gdN σ (r + 1))), (3, Value.int (nI (npk σ))), (2, Value.int (nI (nrl σ))), (1, Value.ref (A 60 0)), (0, Value.ref (A 0 0))]) dL_isSound_360 rfl 1 rfl (by show nI _ + 1 = nI _; exact nI_1 _) (by decide) rfl ?_
                                refine pw_goto (tgt := 305) dL_isSound_363 (by decide) ?_
                                refine PW.sub (L2 := [(10, Value.int (nI (k9 + 1))), (9, Value.int (vG σ (σ.2.2 45 r q))), (8, Value.int (nI q)), (7, Value.int (kyN σ r q x (k9 + 1))), (6, Value.int 0), (5, Value.int (nI r)), (4, Value.int (gdN σ (r + 1))), (3, Value.int (nI (npk σ))), (2, Value.int (nI (nrl σ))), (1, Value.ref (A 60 0)), (0, Value.ref (A 0 0))]) [0, 2, 3, 1, 4, 5, 6, 7, 8, 9, 10] rfl ?_
                                refine PW.widen (kc' := k3 * 20 + k4 * 3 + k5 * 0 + 110) (ks' := k3 * 120 + k4 * 18 + k5 * 0 + 660) (by omega) (by omega) ?_
                                exact ih5 (k9 + 1) h5 (by omega) W5
                              · refine pw_aload_n (pc2 := 344) dL_isSound_343 rfl rfl 9 rfl (by first | exact rf_ref _ | exact rf_opt _ | exact rf_nul) ?_
                                refine pw_iload (pc2 := 346) dL_isSound_344 rfl 0 rfl ?_
                                refine pw_aaldN (pc2 := 347) 6 rfl rfl W5.c60 (i := k9) (by first | assumption | omega) (by omega) dL_isSound_346 rfl ?_
                                refine pw_topV (rowv (by first | assumption | omega)) ?_
                                refine pw_iconst (pc2 := 348) (v := 2) dL_isSound_347 rfl (by decide) ?_
                                refine pw_ialdN (pc2 := 349) (W5.c61 (by omega)) (i := 2) (by first | assumption | omega) (by omega) dL_isSound_348 rfl ?_
                                refine pw_topE (y := σ.1 40 k9 2) ((HD k9 hi5).2.2) ?_
                                refine pw_iconst (pc2 := 350) (v := 1) dL_isSound_349 rfl (by decide) ?_
                                refine pw_icmp_ne (tgt := 357) (pc2 := 353) dL_isSound_350 (by decide) rfl (fun c350 => ?_) (fun c350 => ?_)
                                · refine pw_iconst (pc2 := 358) (v := 0) dL_isSound_357 rfl (by decide) ?_
                                  refine pw_topE (y := kyN σ r q x (k9 + 1)) ((kyN_f (KY_n hK (ne_or0 (HW.b40 hx2) c350))).symm) ?_
                                  refine pw_istore (pc2 := 360) (L2 := [(7, Value.int (kyN σ r q x (k9 + 1))), (10, Value.int (nI k9)), (9, Value.int (vG σ (σ.2.2 45 r q))), (8, Value.int (nI q)), (6, Value.int 0), (5, Value.int (nI r)), (4, Value.int (gdN σ (r + 1))), (3, Value.int (nI (npk σ))), (2, Value.int (nI (nrl σ))), (1, Value.ref (A 60 0)), (0, Value.ref (A 0 0))]) dL_isSound_358 rfl (by decide) rfl ?_
                                  refine pw_iinc (pc2 := 363) (v := nI (k9 + 1)) (L2 := [(10, Value.int (nI (k9 + 1))), (7, Value.int (kyN σ r q x (k9 + 1))), (9, Value.int (vG σ (σ.2.2 45 r q))), (8, Value.int (nI q)), (6, Value.int 0), (5, Value.int (nI r)), (4, Value.int (gdN σ (r + 1))), (3, Value.int (nI (npk σ))), (2, Value.int (nI (nrl σ))), (1, Value.ref (A 60 0)), (0, Value.ref (A 0 0))]) dL_isSound_360 rfl 1 rfl (by show nI _ + 1 = nI _; exact nI_1 _) (by decide) rfl ?_
                                  refine pw_goto (tgt := 305) dL_isSound_363 (by decide) ?_
                                  refine PW.sub (L2 := [(10, Value.int (nI (k9 + 1))), (9, Value.int (vG σ (σ.2.2 45 r q))), (8, Value.int (nI q)), (7, Value.int (kyN σ r q x (k9 + 1))), (6, Value.int 0), (5, Value.int (nI r)), (4, Value.int (gdN σ (r + 1))), (3, Value.int (nI (npk σ))), (2, Value.int (nI (nrl σ))), (1, Value.ref (A 60 0)), (0, Value.ref (A 0 0))]) [0, 2, 3, 1, 4, 5, 6, 7, 8, 9, 10] rfl ?_
                                  refine PW.widen (kc' := k3 * 20 + k4 * 3 + k5 * 0 + 110) (ks' := k3 * 120 + k4 * 18 + k5 * 0 + 660) (by omega) (by omega) ?_
                                  exact ih5 (k9 + 1) h5 (by omega) W5
                                · refine pw_iconst (pc2 := 354) (v := 1) dL_isSound_353 rfl (by decide) ?_
                                  refine pw_goto (tgt := 358) dL_isSound_354 (by decide) ?_
                                  refine pw_topE (y := kyN σ r q x (k9 + 1)) ((kyN_1 (Or.inr (by have ex : k9 = x := HJ.2.2.2.1.inj hi5 hx2 ((nI_inj (by have := HJ.2.2.1.1 k9 hi5; omega) (by omega) c329).trans hx1.symm) (c340.trans (congrArg (vG σ) hl)); exact ⟨by omega, by rw [← ex, c350]; decide⟩))).symm) ?_
                                  refine pw_istore (pc2 := 360) (L2 := [(7, Value.int (kyN σ r q x (k9 + 1))), (10, Value.int (nI k9)), (9, Value.int (vG σ (σ.2.2 45 r q))), (8, Value.int (nI q)), (6, Value.int 0), (5, Value.int (nI r)), (4, Value.int (gdN σ (r + 1))), (3, Value.int (nI (npk σ))), (2, Value.int (nI (nrl σ))), (1, Value.ref (A 60 0)), (0, Value.ref (A 0 0))]) dL_isSound_358 rfl (by decide) rfl ?_
                                  refine pw_iinc (pc2 := 363) (v := nI (k9 + 1)) (L2 := [(10, Value.int (nI (k9 + 1))), (7, Value.int (kyN σ r q x (k9 + 1))), (9, Value.int (vG σ (σ.2.2 45 r q))), (8, Value.int (nI q)), (6, Value.int 0), (5, Value.int (nI r)), (4, Value.int (gdN σ (r + 1))), (3, Value.int (nI (npk σ))), (2, Value.int (nI (nrl σ))), (1, Value.ref (A 60 0)), (0, Value.ref (A 0 0))]) dL_isSound_360 rfl 1 rfl (by show nI _ + 1 = nI _; exact nI_1 _) (by decide) rfl ?_
                                  refine pw_goto (tgt := 305) dL_isSound_363 (by decide) ?_
                                  refine PW.sub (L2 := [(10, Value.int (nI (k9 + 1))), (9, Value.int (vG σ (σ.2.2 45 r q))), (8, Value.int (nI q)), (7, Value.int (kyN σ r q x (k9 + 1))), (6, Value.int 0), (5, Value.int (nI r)), (4, Value.int (gdN σ (r + 1))), (3, Value.int (nI (npk σ))), (2, Value.int (nI (nrl σ))), (1, Value.ref (A 60 0)), (0, Value.ref (A 0 0))]) [0, 2, 3, 1, 4, 5, 6, 7, 8, 9, 10] rfl ?_
                                  refine PW.widen (kc' := k3 * 20 + k4 * 3 + k5 * 0 + 110) (ks' := k3 * 120 + k4 * 18 + k5 * 0 + 660) (by omega) (by omega) ?_
                                  exact ih5 (k9 + 1) h5 (by omega) W5
                      refine PW.sub (L2 := [(10, Value.int 0), (9, Value.int (vG σ (σ.2.2 45 r q))), (8, Value.int (nI q)), (7, Value.int (kyN σ r q x 0)), (6, Value.int 0), (5, Value.int (nI r)), (4, Value.int (gdN σ (r + 1))), (3, Value.int (nI (npk σ))), (2, Value.int (nI (nrl σ))), (1, Value.ref (A 60 0)), (0, Value.ref (A 0 0))]) [0, 1, 2, 3, 4, 5, 6, 7, 8, 9, 10] rfl ?_
                      refine PW.widen (kc' := k3 * 20 + k4 * 3 + (nrl σ - 0) * 0 + 110) (ks' := k3 * 120 + k4 * 18 + (nrl σ - 0) * 0 + 660) (by omega) (by omega) ?_
                      exact lp5 (nrl σ - 0) 0 h33 (by omega) W33
                  · refine pw_iload (pc2 := 297) dL_isSound_295 rfl 0 rfl ?_
                    refine pw_if_le (tgt := 302) (pc2 := 300) dL_isSound_297 (by decide) rfl (fun _ => ?_) (fun c297 => by exact absurd (lk_hi HW HJ hi3 hi4 c292) c297)
                    rcases opt_cases (σ.2.2 45 r q) with hl | ⟨x, hl⟩
                    · refine pw_iconst (pc2 := 303) (v := 0) dL_isSound_302 rfl (by decide) ?_
                      refine pw_istore (pc2 := 305) (L2 := [(10, Value.int 0), (9, Value.int (vG σ (σ.2.2 45 r q))), (8, Value.int (nI q)), (7, Value.int (hyN σ r q)), (6, Value.int 0), (5, Value.int (nI r)), (4, Value.int (gdN σ (r + 1))), (3, Value.int (nI (npk σ))), (2, Value.int (nI (nrl σ))), (1, Value.ref (A 60 0)), (0, Value.ref (A 0 0))]) dL_isSound_303 rfl (by decide) rfl ?_
                      refine pw_iload (pc2 := 307) dL_isSound_305 rfl 0 rfl ?_
                      refine pw_iload_n (pc2 := 308) dL_isSound_307 rfl rfl 8 rfl ?_
                      refine pw_icmp_ge (tgt := 366) (pc2 := 311) dL_isSound_308 (by decide) rfl (fun c308 => ?_) (fun c308 => ?_)
                      · refine pw_iinc (pc2 := 369) (v := nI (q + 1)) (L2 := [(8, Value.int (nI (q + 1))), (10, Value.int 0), (9, Value.int (vG σ (σ.2.2 45 r q))), (7, Value.int (hyN σ r q)), (6, Value.int 0), (5, Value.int (nI r)), (4, Value.int (gdN σ (r + 1))), (3, Value.int (nI (npk σ))), (2, Value.int (nI (nrl σ))), (1, Value.ref (A 60 0)), (0, Value.ref (A 0 0))]) dL_isSound_366 rfl 2 rfl (by show nI _ + 1 = nI _; exact nI_1 _) (by decide) rfl ?_
                        refine pw_goto (tgt := 250) dL_isSound_369 (by decide) ?_
                        rw [← hyN_n hl]
                        refine PW.sub (L2 := [(8, Value.int (nI (q + 1))), (7, Value.int (hyN σ r (q + 1))), (6, Value.int 0), (5, Value.int (nI r)), (4, Value.int (gdN σ (r + 1))), (3, Value.int (nI (npk σ))), (2, Value.int (nI (nrl σ))), (1, Value.ref (A 60 0)), (0, Value.ref (A 0 0))]) [0, 3, 4, 5, 6, 7, 8, 9, 10] rfl ?_
                        refine PW.widen (kc' := k3 * 20 + k4 * 3 + 110) (ks' := k3 * 120 + k4 * 18 + 660) (by omega) (by omega) ?_
                        exact ih4 (q + 1) h33 (by omega) W33
                      · refine pw_iload (pc2 := 313) dL_isSound_311 rfl 1 rfl ?_
                        refine pw_if_le (tgt := 366) (pc2 := 316) dL_isSound_313 (by decide) rfl (fun _ => ?_) (fun c313 => by exact absurd (lk_non hl) c313)
                        refine pw_iinc (pc2 := 369) (v := nI (q + 1)) (L2 := [(8, Value.int (nI (q + 1))), (10, Value.int 0), (9, Value.int (vG σ (σ.2.2 45 r q))), (7, Value.int (hyN σ r q)), (6, Value.int 0), (5, Value.int (nI r)), (4, Value.int (gdN σ (r + 1))), (3, Value.int (nI (npk σ))), (2, Value.int (nI (nrl σ))), (1, Value.ref (A 60 0)), (0, Value.ref (A 0 0))]) dL_isSound_366 rfl 2 rfl (by show nI _ + 1 = nI _; exact nI_1 _) (by decide) rfl ?_
                        refine pw_goto (tgt := 250) dL_isSound_369 (by decide) ?_
                        rw [← hyN_n hl]
                        refine PW.sub (L2 := [(8, Value.int (nI (q + 1))), (7, Value.int (hyN σ r (q + 1))), (6, Value.int 0), (5, Value.int (nI r)), (4, Value.int (gdN σ (r + 1))), (3, Value.int (nI (npk σ))), (2, Value.int (nI (nrl σ))), (1, Value.ref (A 60 0)), (0, Value.ref (A 0 0))]) [0, 3, 4, 5, 6, 7, 8, 9, 10] rfl ?_
                        refine PW.widen (kc' := k3 * 20 + k4 * 3 + 110) (ks' := k3 * 120 + k4 * 18 + 660) (by omega) (by omega) ?_
                        exact ih4 (q + 1) h33 (by omega) W33
                    · have hx1 : ofr x = q := ((HJ.2.2.2.1.1 r hi3).1 q x hl).1
                      have hx2 : x < nrl σ := HW.p45 hi3 q x hl
                      refine pw_iconst (pc2 := 303) (v := 0) dL_isSound_302 rfl (by decide) ?_
                      refine pw_istore (pc2 := 305) (L2 := [(10, Value.int 0), (9, Value.int (vG σ (σ.2.2 45 r q))), (8, Value.int (nI q)), (7, Value.int (hyN σ r q)), (6, Value.int 0), (5, Value.int (nI r)), (4, Value.int (gdN σ (r + 1))), (3, Value.int (nI (npk σ))), (2, Value.int (nI (nrl σ))), (1, Value.ref (A 60 0)), (0, Value.ref (A 0 0))]) dL_isSound_303 rfl (by decide) rfl ?_
                      rw [kyN_0 (σ := σ) (r := r) (n := q) (x := x)]
                      have lp5 : ∀ (k5 k9 : Nat) (h5 : hp), k9 + k5 = nrl σ → WS G h5 A σ → PW G ML_isSound d noA (E0 G (QL G A σ (.int 1)) noX) (k3 * 20 + k4 * 3 + k5 * 0 + 110) (k3 * 120 + k4 * 18 + k5 * 0 + 660) 305 [(10, Value.int (nI k9)), (9, Value.int (vG σ (σ.2.2 45 r q))), (8, Value.int (nI q)), (7, Value.int (kyN σ r q x k9)), (6, Value.int 0), (5, Value.int (nI r)), (4, Value.int (gdN σ (r + 1))), (3, Value.int (nI (npk σ))), (2, Value.int (nI (nrl σ))), (1, Value.ref (A 60 0)), (0, Value.ref (A 0 0))] [] h5 := by
                        intro k5
                        induction k5 with
                        | zero =>
                          intro k9 h5 hik5 W5
                          have hi5 : nrl σ = k9 := by omega
                          subst hi5
                          refine PW.widen (kc' := k3 * 20 + k4 * 3 + 110) (ks' := k3 * 120 + k4 * 18 + 660) (by omega) (by omega) ?_
                          refine pw_iload (pc2 := 307) dL_isSound_305 rfl 0 rfl ?_
                          refine pw_iload_n (pc2 := 308) dL_isSound_307 rfl rfl 8 rfl ?_
                          refine pw_icmp_ge (tgt := 366) (pc2 := 311) dL_isSound_308 (by decide) rfl (fun _ => ?_) (fun c308 => by exact absurd (Int32.le_refl _) c308)
                          refine pw_iinc (pc2 := 369) (v := nI (q + 1)) (L2 := [(8, Value.int (nI (q + 1))), (10, Value.int (nI (nrl σ))), (9, Value.int (vG σ (σ.2.2 45 r q))), (7, Value.int (kyN σ r q x (nrl σ))), (6, Value.int 0), (5, Value.int (nI r)), (4, Value.int (gdN σ (r + 1))), (3, Value.int (nI (npk σ))), (2, Value.int (nI (nrl σ))), (1, Value.ref (A 60 0)), (0, Value.ref (A 0 0))]) dL_isSound_366 rfl 2 rfl (by show nI _ + 1 = nI _; exact nI_1 _) (by decide) rfl ?_
                          refine pw_goto (tgt := 250) dL_isSound_369 (by decide) ?_
                          rw [kyN_e hl hx2]
                          refine PW.sub (L2 := [(8, Value.int (nI (q + 1))), (7, Value.int (hyN σ r (q + 1))), (6, Value.int 0), (5, Value.int (nI r)), (4, Value.int (gdN σ (r + 1))), (3, Value.int (nI (npk σ))), (2, Value.int (nI (nrl σ))), (1, Value.ref (A 60 0)), (0, Value.ref (A 0 0))]) [0, 3, 4, 5, 6, 7, 8, 9, 10] rfl ?_
                          refine PW.widen (kc' := k3 * 20 + k4 * 3 + 110) (ks' := k3 * 120 + k4 * 18 + 660) (by omega) (by omega) ?_
                          exact ih4 (q + 1) h5 (by omega) W5
                        | succ k5 ih5 =>
                          intro k9 h5 hik5 W5
                          have hi5 : k9 < nrl σ := by omega
                          refine PW.widen (kc' := k3 * 20 + k4 * 3 + k5 * 0 + 110) (ks' := k3 * 120 + k4 * 18 + k5 * 0 + 660) (by omega) (by omega) ?_
                          refine pw_iload (pc2 := 307) dL_isSound_305 rfl 0 rfl ?_
                          refine pw_iload_n (pc2 := 308) dL_isSound_307 rfl rfl 8 rfl ?_
                          refine pw_icmp_ge (tgt := 366) (pc2 := 311) dL_isSound_308 (by decide) rfl (fun c308 => by exact absurd c308 (fun z => by have := (nI_leI (a := nrl σ) (b := k9) (by omega) (by omega)).mp z; omega)) (fun _ => ?_)
                          refine pw_iload (pc2 := 313) dL_isSound_311 rfl 1 rfl ?_
                          refine pw_if_le (tgt := 366) (pc2 := 316) dL_isSound_313 (by decide) rfl (fun c313 => by exact absurd c313 (lk_pos HW HJ hi3 hl)) (fun _ => ?_)
                          refine pw_iload (pc2 := 318) dL_isSound_316 rfl 3 rfl ?_
                          by_cases hK : KY σ r q x k9
                          · refine pw_topE (y := 1) (kyN_1 hK) ?_
                            refine pw_if_ne (tgt := 353) (pc2 := 321) dL_isSound_318 (by decide) rfl (fun _ => ?_) (fun c318 => by exact absurd c318 (by decide))
                            refine pw_iconst (pc2 := 354) (v := 1) dL_isSound_353 rfl (by decide) ?_
                            refine pw_goto (tgt := 358) dL_isSound_354 (by decide) ?_
                            refine pw_topE (y := kyN σ r q x (k9 + 1)) ((kyN_1 (KY_s hK)).symm) ?_
                            refine pw_istore (pc2 := 360) (L2 := [(7, Value.int (kyN σ r q x (k9 + 1))), (10, Value.int (nI k9)), (9, Value.int (vG σ (σ.2.2 45 r q))), (8, Value.int (nI q)), (6, Value.int 0), (5, Value.int (nI r)), (4, Value.int (gdN σ (r + 1))), (3, Value.int (nI (npk σ))), (2, Value.int (nI (nrl σ))), (1, Value.ref (A 60 0)), (0, Value.ref (A 0 0))]) dL_isSound_358 rfl (by decide) rfl ?_
                            refine pw_iinc (pc2 := 363) (v := nI (k9 + 1)) (L2 := [(10, Value.int (nI (k9 + 1))), (7, Value.int (kyN σ r q x (k9 + 1))), (9, Value.int (vG σ (σ.2.2 45 r q))), (8, Value.int (nI q)), (6, Value.int 0), (5, Value.int (nI r)), (4, Value.int (gdN σ (r + 1))), (3, Value.int (nI (npk σ))), (2, Value.int (nI (nrl σ))), (1, Value.ref (A 60 0)), (0, Value.ref (A 0 0))]) dL_isSound_360 rfl 1 rfl (by show nI _ + 1 = nI _; exact nI_1 _) (by decide) rfl ?_
                            refine pw_goto (tgt := 305) dL_isSound_363 (by decide) ?_
                            refine PW.sub (L2 := [(10, Value.int (nI (k9 + 1))), (9, Value.int (vG σ (σ.2.2 45 r q))), (8, Value.int (nI q)), (7, Value.int (kyN σ r q x (k9 + 1))), (6, Value.int 0), (5, Value.int (nI r)), (4, Value.int (gdN σ (r + 1))), (3, Value.int (nI (npk σ))), (2, Value.int (nI (nrl σ))), (1, Value.ref (A 60 0)), (0, Value.ref (A 0 0))]) [0, 2, 3, 1, 4, 5, 6, 7, 8, 9, 10] rfl ?_
                            refine PW.widen (kc' := k3 * 20 + k4 * 3 + k5 * 0 + 110) (ks' := k3 * 120 + k4 * 18 + k5 * 0 + 660) (by omega) (by omega) ?_
                            exact ih5 (k9 + 1) h5 (by omega) W5
                          · refine pw_topE (y := 0) (kyN_f hK) ?_
                            refine pw_if_ne (tgt := 353) (pc2 := 321) dL_isSound_318 (by decide) rfl (fun c318 => by exact absurd (by decide) c318) (fun _ => ?_)
                            refine pw_aload_n (pc2 := 322) dL_isSound_321 rfl rfl 9 rfl (by first | exact rf_ref _ | exact rf_opt _ | exact rf_nul) ?_
                            refine pw_iload (pc2 := 324) dL_isSound_322 rfl 0 rfl ?_
                            refine pw_aaldN (pc2 := 325) 6 rfl rfl W5.c60 (i := k9) (by first | assumption | omega) (by omega) dL_isSound_324 rfl ?_
                            refine pw_topV (rowv (by first | assumption | omega)) ?_
                            refine pw_iconst (pc2 := 326) (v := 0) dL_isSound_325 rfl (by decide) ?_
                            refine pw_ialdN (pc2 := 327) (W5.c61 (by omega)) (i := 0) (by first | assumption | omega) (by omega) dL_isSound_326 rfl ?_
                            refine pw_topE (y := nI (ofr k9)) ((HD k9 hi5).1) ?_
                            refine pw_iload (pc2 := 329) dL_isSound_327 rfl 2 rfl ?_
                            refine pw_icmp_ne (tgt := 357) (pc2 := 332) dL_isSound_329 (by decide) rfl (fun c329 => ?_) (fun c329 => ?_)
                            · refine pw_iconst (pc2 := 358) (v := 0) dL_isSound_357 rfl (by decide) ?_
                              refine pw_topE (y := kyN σ r q x (k9 + 1)) ((kyN_f (KY_n hK (Or.inl (fun z => c329 (by rw [z, hx1]))))).symm) ?_
                              refine pw_istore (pc2 := 360) (L2 := [(7, Value.int (kyN σ r q x (k9 + 1))), (10, Value.int (nI k9)), (9, Value.int (vG σ (σ.2.2 45 r q))), (8, Value.int (nI q)), (6, Value.int 0), (5, Value.int (nI r)), (4, Value.int (gdN σ (r + 1))), (3, Value.int (nI (npk σ))), (2, Value.int (nI (nrl σ))), (1, Value.ref (A 60 0)), (0, Value.ref (A 0 0))]) dL_isSound_358 rfl (by decide) rfl ?_
                              refine pw_iinc (pc2 := 363) (v := nI (k9 + 1)) (L2 := [(10, Value.int (nI (k9 + 1))), (7, Value.int (kyN σ r q x (k9 + 1))), (9, Value.int (vG σ (σ.2.2 45 r q))), (8, Value.int (nI q)), (6, Value.int 0), (5, Value.int (nI r)), (4, Value.int (gdN σ (r + 1))), (3, Value.int (nI (npk σ))), (2, Value.int (nI (nrl σ))), (1, Value.ref (A 60 0)), (0, Value.ref (A 0 0))]) dL_isSound_360 rfl 1 rfl (by show nI _ + 1 = nI _; exact nI_1 _) (by decide) rfl ?_
                              refine pw_goto (tgt := 305) dL_isSound_363 (by decide) ?_
                              refine PW.sub (L2 := [(10, Value.int (nI (k9 + 1))), (9, Value.int (vG σ (σ.2.2 45 r q))), (8, Value.int (nI q)), (7, Value.int (kyN σ r q x (k9 + 1))), (6, Value.int 0), (5, Value.int (nI r)), (4, Value.int (gdN σ (r + 1))), (3, Value.int (nI (npk σ))), (2, Value.int (nI (nrl σ))), (1, Value.ref (A 60 0)), (0, Value.ref (A 0 0))]) [0, 2, 3, 1, 4, 5, 6, 7, 8, 9, 10] rfl ?_
                              refine PW.widen (kc' := k3 * 20 + k4 * 3 + k5 * 0 + 110) (ks' := k3 * 120 + k4 * 18 + k5 * 0 + 660) (by omega) (by omega) ?_
                              exact ih5 (k9 + 1) h5 (by omega) W5
                            · refine pw_aload_n (pc2 := 333) dL_isSound_332 rfl rfl 9 rfl (by first | exact rf_ref _ | exact rf_opt _ | exact rf_nul) ?_
                              refine pw_iload (pc2 := 335) dL_isSound_333 rfl 0 rfl ?_
                              refine pw_aaldN (pc2 := 336) 6 rfl rfl W5.c60 (i := k9) (by first | assumption | omega) (by omega) dL_isSound_335 rfl ?_
                              refine pw_topV (rowv (by first | assumption | omega)) ?_
                              refine pw_iconst (pc2 := 337) (v := 1) dL_isSound_336 rfl (by decide) ?_
                              refine pw_ialdN (pc2 := 338) (W5.c61 (by omega)) (i := 1) (by first | assumption | omega) (by omega) dL_isSound_337 rfl ?_
                              refine pw_topE (y := σ.1 40 k9 0) ((HD k9 hi5).2.1) ?_
                              refine pw_iload (pc2 := 340) dL_isSound_338 rfl 1 rfl ?_
                              refine pw_icmp_ne (tgt := 357) (pc2 := 343) dL_isSound_340 (by decide) rfl (fun c340 => ?_) (fun c340 => ?_)
                              · refine pw_iconst (pc2 := 358) (v := 0) dL_isSound_357 rfl (by decide) ?_
                                refine pw_topE (y := kyN σ r q x (k9 + 1)) ((kyN_f (KY_n hK (Or.inl (fun z => c340 (by rw [z]; exact (congrArg (vG σ) hl).symm))))).symm) ?_
                                refine pw_istore (pc2 := 360) (L2 := [(7, Value.int (kyN σ r q x (k9 + 1))), (10, Value.int (nI k9)), (9, Value.int (vG σ (σ.2.2 45 r q))), (8, Value.int (nI q)), (6, Value.int 0), (5, Value.int (nI r)), (4, Value.int (gdN σ (r + 1))), (3, Value.int (nI (npk σ))), (2, Value.int (nI (nrl σ))), (1, Value.ref (A 60 0)), (0, Value.ref (A 0 0))]) dL_isSound_358 rfl (by decide) rfl ?_
                                refine pw_iinc (pc2 := 363) (v := nI (k9 + 1)) (L2 := [(10, Value.int (nI (k9 + 1))), (7, Value.int (kyN σ r q x (k9 + 1))), (9, Value.int (vG σ (σ.2.2 45 r q))), (8, Value.int (nI q)), (6, Value.int 0), (5, Value.int (nI r)), (4, Value.int (gdN σ (r + 1))), (3, Value.int (nI (npk σ))), (2, Value.int (nI (nrl σ))), (1, Value.ref (A 60 0)), (0, Value.ref (A 0 0))]) dL_isSound_360 rfl 1 rfl (by show nI _ + 1 = nI _; exact nI_1 _) (by decide) rfl ?_
                                refine pw_goto (tgt := 305) dL_isSound_363 (by decide) ?_
                                refine PW.sub (L2 := [(10, Value.int (nI (k9 + 1))), (9, Value.int (vG σ (σ.2.2 45 r q))), (8, Value.int (nI q)), (7, Value.int (kyN σ r q x (k9 + 1))), (6, Value.int 0), (5, Value.int (nI r)), (4, Value.int (gdN σ (r + 1))), (3, Value.int (nI (npk σ))), (2, Value.int (nI (nrl σ))), (1, Value.ref (A 60 0)), (0, Value.ref (A 0 0))]) [0, 2, 3, 1, 4, 5, 6, 7, 8, 9, 10] rfl ?_
                                refine PW.widen (kc' := k3 * 20 + k4 * 3 + k5 * 0 + 110) (ks' := k3 * 120 + k4 * 18 + k5 * 0 + 660) (by omega) (by omega) ?_
                                exact ih5 (k9 + 1) h5 (by omega) W5
                              · refine pw_aload_n (pc2 := 344) dL_isSound_343 rfl rfl 9 rfl (by first | exact rf_ref _ | exact rf_opt _ | exact rf_nul) ?_
                                refine pw_iload (pc2 := 346) dL_isSound_344 rfl 0 rfl ?_
                                refine pw_aaldN (pc2 := 347) 6 rfl rfl W5.c60 (i := k9) (by first | assumption | omega) (by omega) dL_isSound_346 rfl ?_
                                refine pw_topV (rowv (by first | assumption | omega)) ?_
                                refine pw_iconst (pc2 := 348) (v := 2) dL_isSound_347 rfl (by decide) ?_
                                refine pw_ialdN (pc2 := 349) (W5.c61 (by omega)) (i := 2) (by first | assumption | omega) (by omega) dL_isSound_348 rfl ?_
                                refine pw_topE (y := σ.1 40 k9 2) ((HD k9 hi5).2.2) ?_
                                refine pw_iconst (pc2 := 350) (v := 1) dL_isSound_349 rfl (by decide) ?_
                                refine pw_icmp_ne (tgt := 357) (pc2 := 353) dL_isSound_350 (by decide) rfl (fun c350 => ?_) (fun c350 => ?_)
                                · refine pw_iconst (pc2 := 358) (v := 0) dL_isSound_357 rfl (by decide) ?_
                                  refine pw_topE (y := kyN σ r q x (k9 + 1)) ((kyN_f (KY_n hK (ne_or0 (HW.b40 hx2) c350))).symm) ?_
                                  refine pw_istore (pc2 := 360) (L2 := [(7, Value.int (kyN σ r q x (k9 + 1))), (10, Value.int (nI k9)), (9, Value.int (vG σ (σ.2.2 45 r q))), (8, Value.int (nI q)), (6, Value.int 0), (5, Value.int (nI r)), (4, Value.int (gdN σ (r + 1))), (3, Value.int (nI (npk σ))), (2, Value.int (nI (nrl σ))), (1, Value.ref (A 60 0)), (0, Value.ref (A 0 0))]) dL_isSound_358 rfl (by decide) rfl ?_
                                  refine pw_iinc (pc2 := 363) (v := nI (k9 + 1)) (L2 := [(10, Value.int (nI (k9 + 1))), (7, Value.int (kyN σ r q x (k9 + 1))), (9, Value.int (vG σ (σ.2.2 45 r q))), (8, Value.int (nI q)), (6, Value.int 0), (5, Value.int (nI r)), (4, Value.int (gdN σ (r + 1))), (3, Value.int (nI (npk σ))), (2, Value.int (nI (nrl σ))), (1, Value.ref (A 60 0)), (0, Value.ref (A 0 0))]) dL_isSound_360 rfl 1 rfl (by show nI _ + 1 = nI _; exact nI_1 _) (by decide) rfl ?_
                                  refine pw_goto (tgt := 305) dL_isSound_363 (by decide) ?_
                                  refine PW.sub (L2 := [(10, Value.int (nI (k9 + 1))), (9, Value.int (vG σ (σ.2.2 45 r q))), (8, Value.int (nI q)), (7, Value.int (kyN σ r q x (k9 + 1))), (6, Value.int 0), (5, Value.int (nI r)), (4, Value.int (gdN σ (r + 1))), (3, Value.int (nI (npk σ))), (2, Value.int (nI (nrl σ))), (1, Value.ref (A 60 0)), (0, Value.ref (A 0 0))]) [0, 2, 3, 1, 4, 5, 6, 7, 8, 9, 10] rfl ?_
                                  refine PW.widen (kc' := k3 * 20 + k4 * 3 + k5 * 0 + 110) (ks' := k3 * 120 + k4 * 18 + k5 * 0 + 660) (by omega) (by omega) ?_
                                  exact ih5 (k9 + 1) h5 (by omega) W5
                                · refine pw_iconst (pc2 := 354) (v := 1) dL_isSound_353 rfl (by decide) ?_
                                  refine pw_goto (tgt := 358) dL_isSound_354 (by decide) ?_
                                  refine pw_topE (y := kyN σ r q x (k9 + 1)) ((kyN_1 (Or.inr (by have ex : k9 = x := HJ.2.2.2.1.inj hi5 hx2 ((nI_inj (by have := HJ.2.2.1.1 k9 hi5; omega) (by omega) c329).trans hx1.symm) (c340.trans (congrArg (vG σ) hl)); exact ⟨by omega, by rw [← ex, c350]; decide⟩))).symm) ?_
                                  refine pw_istore (pc2 := 360) (L2 := [(7, Value.int (kyN σ r q x (k9 + 1))), (10, Value.int (nI k9)), (9, Value.int (vG σ (σ.2.2 45 r q))), (8, Value.int (nI q)), (6, Value.int 0), (5, Value.int (nI r)), (4, Value.int (gdN σ (r + 1))), (3, Value.int (nI (npk σ))), (2, Value.int (nI (nrl σ))), (1, Value.ref (A 60 0)), (0, Value.ref (A 0 0))]) dL_isSound_358 rfl (by decide) rfl ?_
                                  refine pw_iinc (pc2 := 363) (v := nI (k9 + 1)) (L2 := [(10, Value.int (nI (k9 + 1))), (7, Value.int (kyN σ r q x (k9 + 1))), (9, Value.int (vG σ (σ.2.2 45 r q))), (8, Value.int (nI q)), (6, Value.int 0), (5, Value.int (nI r)), (4, Value.int (gdN σ (r + 1))), (3, Value.int (nI (npk σ))), (2, Value.int (nI (nrl σ))), (1, Value.ref (A 60 0)), (0, Value.ref (A 0 0))]) dL_isSound_360 rfl 1 rfl (by show nI _ + 1 = nI _; exact nI_1 _) (by decide) rfl ?_
                                  refine pw_goto (tgt := 305) dL_isSound_363 (by decide) ?_
                                  refine PW.sub (L2 := [(10, Value.int (nI (k9 + 1))), (9, Value.int (vG σ (σ.2.2 45 r q))), (8, Value.int (nI q)), (7, Value.int (kyN σ r q x (k9 + 1))), (6, Value.int 0), (5, Value.int (nI r)), (4, Value.int (gdN σ (r + 1))), (3, Value.int (nI (npk σ))), (2, Value.int (nI (nrl σ))), (1, Value.ref (A 60 0)), (0, Value.ref (A 0 0))]) [0, 2, 3, 1, 4, 5, 6, 7, 8, 9, 10] rfl ?_
                                  refine PW.widen (kc' := k3 * 20 + k4 * 3 + k5 * 0 + 110) (ks' := k3 * 120 + k4 * 18 + k5 * 0 + 660) (by omega) (by omega) ?_
                                  exact ih5 (k9 + 1) h5 (by omega) W5
                      refine PW.sub (L2 := [(10, Value.int 0), (9, Value.int (vG σ (σ.2.2 45 r q))), (8, Value.int (nI q)), (7, Value.int (kyN σ r q x 0)), (6, Value.int 0), (5, Value.int (nI r)), (4, Value.int (gdN σ (r + 1))), (3, Value.int (nI (npk σ))), (2, Value.int (nI (nrl σ))), (1, Value.ref (A 60 0)), (0, Value.ref (A 0 0))]) [0, 1, 2, 3, 4, 5, 6, 7, 8, 9, 10] rfl ?_
                      refine PW.widen (kc' := k3 * 20 + k4 * 3 + (nrl σ - 0) * 0 + 110) (ks' := k3 * 120 + k4 * 18 + (nrl σ - 0) * 0 + 660) (by omega) (by omega) ?_
                      exact lp5 (nrl σ - 0) 0 h33 (by omega) W33
              refine PW.sub (L2 := [(8, Value.int 0), (7, Value.int (hyN σ r 0)), (6, Value.int 0), (5, Value.int (nI r)), (4, Value.int (gdN σ (r + 1))), (3, Value.int (nI (npk σ))), (2, Value.int (nI (nrl σ))), (1, Value.ref (A 60 0)), (0, Value.ref (A 0 0))]) [0, 1, 3, 4, 2, 5, 6, 7, 8] rfl ?_
              refine PW.widen (kc' := k3 * 20 + (npk σ - 0) * 3 + 110) (ks' := k3 * 120 + (npk σ - 0) * 18 + 660) (by omega) (by omega) ?_
              exact lp4 (npk σ - 0) 0 h12 (by omega) W12
            · refine pw_iload (pc2 := 233) dL_isSound_231 rfl 0 rfl ?_
              refine pw_if_ne (tgt := 240) (pc2 := 236) dL_isSound_233 (by decide) rfl (fun c233 => by exact absurd (by decide) c233) (fun _ => ?_)
              refine pw_iconst (pc2 := 237) (v := 1) dL_isSound_236 rfl (by decide) ?_
              refine pw_goto (tgt := 241) dL_isSound_237 (by decide) ?_
              refine pw_iadd (pc2 := 242) dL_isSound_241 rfl ?_
              refine pw_topE (y := gdN σ (r + 1)) ((dit_t ⟨c228, hst⟩).symm) ?_
              refine pw_istore (pc2 := 244) (L2 := [(4, Value.int (gdN σ (r + 1))), (6, Value.int 0), (5, Value.int (nI r)), (3, Value.int (nI (npk σ))), (2, Value.int (nI (nrl σ))), (1, Value.ref (A 60 0)), (0, Value.ref (A 0 0))]) dL_isSound_242 rfl (by decide) rfl ?_
              refine pw_iconst (pc2 := 245) (v := 0) dL_isSound_244 rfl (by decide) ?_
              refine pw_topE (y := hyN σ r 0) ((hyN_0 r).symm) ?_
              refine pw_istore (pc2 := 247) (L2 := [(7, Value.int (hyN σ r 0)), (4, Value.int (gdN σ (r + 1))), (6, Value.int 0), (5, Value.int (nI r)), (3, Value.int (nI (npk σ))), (2, Value.int (nI (nrl σ))), (1, Value.ref (A 60 0)), (0, Value.ref (A 0 0))]) dL_isSound_245 rfl (by decide) rfl ?_
              refine pw_iconst (pc2 := 248) (v := 0) dL_isSound_247 rfl (by decide) ?_
              refine pw_istore (pc2 := 250) (L2 := [(8, Value.int 0), (7, Value.int (hyN σ r 0)), (4, Value.int (gdN σ (r + 1))), (6, Value.int 0), (5, Value.int (nI r)), (3, Value.int (nI (npk σ))), (2, Value.int (nI (nrl σ))), (1, Value.ref (A 60 0)), (0, Value.ref (A 0 0))]) dL_isSound_248 rfl (by decide) rfl ?_
              have lp4 : ∀ (k4 q : Nat) (h4 : hp), q + k4 = npk σ → WS G h4 A σ → PW G ML_isSound d noA (E0 G (QL G A σ (.int 1)) noX) (k3 * 20 + k4 * 3 + 110) (k3 * 120 + k4 * 18 + 660) 250 [(8, Value.int (nI q)), (7, Value.int (hyN σ r q)), (6, Value.int 0), (5, Value.int (nI r)), (4, Value.int (gdN σ (r + 1))), (3, Value.int (nI (npk σ))), (2, Value.int (nI (nrl σ))), (1, Value.ref (A 60 0)), (0, Value.ref (A 0 0))] [] h4 := by
                intro k4
                induction k4 with
                | zero =>
                  intro q h4 hik4 W4
                  have hi4 : npk σ = q := by omega
                  subst hi4
                  refine PW.widen (kc' := k3 * 20 + 110) (ks' := k3 * 120 + 660) (by omega) (by omega) ?_
                  refine pw_iload (pc2 := 252) dL_isSound_250 rfl 0 rfl ?_
                  refine pw_iload_n (pc2 := 253) dL_isSound_252 rfl rfl 5 rfl ?_
                  refine pw_icmp_ge (tgt := 372) (pc2 := 256) dL_isSound_253 (by decide) rfl (fun _ => ?_) (fun c253 => by exact absurd (Int32.le_refl _) c253)
                  refine pw_iload (pc2 := 374) dL_isSound_372 rfl 2 rfl ?_
                  refine pw_iload (pc2 := 376) dL_isSound_374 rfl 1 rfl ?_
                  by_cases hH : HY σ r (npk σ)
                  · refine pw_topE (y := 1) (hyN_1 hH) ?_
                    refine pw_if_eq (tgt := 392) (pc2 := 379) dL_isSound_376 (by decide) rfl (fun c376 => by exact absurd c376 (by decide)) (fun _ => ?_)
                    refine pw_aload_n (pc2 := 380) dL_isSound_379 rfl rfl 7 rfl (by first | exact rf_ref _ | exact rf_opt _ | exact rf_nul) ?_
                    refine pw_iload (pc2 := 382) dL_isSound_380 rfl 3 rfl ?_
                    refine pw_aaldN (pc2 := 383) 6 rfl rfl W4.c60 (i := r) (by first | assumption | omega) (by omega) dL_isSound_382 rfl ?_
                    refine pw_topV (rowv (by first | assumption | omega)) ?_
                    refine pw_iconst (pc2 := 384) (v := 2) dL_isSound_383 rfl (by decide) ?_
                    refine pw_ialdN (pc2 := 385) (W4.c61 (by omega)) (i := 2) (by first | assumption | omega) (by omega) dL_isSound_384 rfl ?_
                    refine pw_topE (y := σ.1 40 r 2) ((HD r hi3).2.2) ?_
                    refine pw_if_ne (tgt := 392) (pc2 := 388) dL_isSound_385 (by decide) rfl (fun _ => ?_) (fun c385 => by exact absurd c385 (fun z => hst ((stl_HY HW HJ hi3).mpr ⟨z, hH⟩)))
                    refine pw_iconst (pc2 := 393) (v := 0) dL_isSound_392 rfl (by decide) ?_
                    refine pw_icmp_eq (tgt := 398) (pc2 := 396) dL_isSound_393 (by decide) rfl (fun _ => ?_) (fun c393 => by exact absurd (by decide) c393)
                    refine pw_iinc (pc2 := 401) (v := nI (r + 1)) (L2 := [(5, Value.int (nI (r + 1))), (8, Value.int (nI (npk σ))), (7, Value.int (hyN σ r (npk σ))), (6, Value.int 0), (4, Value.int (gdN σ (r + 1))), (3, Value.int (nI (npk σ))), (2, Value.int (nI (nrl σ))), (1, Value.ref (A 60 0)), (0, Value.ref (A 0 0))]) dL_isSound_398 rfl 3 rfl (by show nI _ + 1 = nI _; exact nI_1 _) (by decide) rfl ?_
                    refine pw_goto (tgt := 186) dL_isSound_401 (by decide) ?_
                    refine PW.sub (L2 := [(5, Value.int (nI (r + 1))), (4, Value.int (gdN σ (r + 1))), (3, Value.int (nI (npk σ))), (2, Value.int (nI (nrl σ))), (1, Value.ref (A 60 0)), (0, Value.ref (A 0 0))]) [0, 4, 5, 6, 7, 8] rfl ?_
                    refine PW.widen (kc' := k3 * 20 + 110) (ks' := k3 * 120 + 660) (by omega) (by omega) ?_
                    exact ih3 (r + 1) h4 (by omega) W4
                  · refine pw_topE (y := 0) (hyN_f hH) ?_
                    refine pw_if_eq (tgt := 392) (pc2 := 379) dL_isSound_376 (by decide) rfl (fun _ => ?_) (fun c376 => by exact absurd (by decide) c376)
                    refine pw_iconst (pc2 := 393) (v := 0) dL_isSound_392 rfl (by decide) ?_
                    refine pw_icmp_eq (tgt := 398) (pc2 := 396) dL_isSound_393 (by decide) rfl (fun _ => ?_) (fun c393 => by exact absurd (by decide) c393)
                    refine pw_iinc (pc2 := 401) (v := nI (r + 1)) (L2 := [(5, Value.int (nI (r + 1))), (8, Value.int (nI (npk σ))), (7, Value.int (hyN σ r (npk σ))), (6, Value.int 0), (4, Value.int (gdN σ (r + 1))), (3, Value.int (nI (npk σ))), (2, Value.int (nI (nrl σ))), (1, Value.ref (A 60 0)), (0, Value.ref (A 0 0))]) dL_isSound_398 rfl 3 rfl (by show nI _ + 1 = nI _; exact nI_1 _) (by decide) rfl ?_
                    refine pw_goto (tgt := 186) dL_isSound_401 (by decide) ?_
                    refine PW.sub (L2 := [(5, Value.int (nI (r + 1))), (4, Value.int (gdN σ (r + 1))), (3, Value.int (nI (npk σ))), (2, Value.int (nI (nrl σ))), (1, Value.ref (A 60 0)), (0, Value.ref (A 0 0))]) [0, 4, 5, 6, 7, 8] rfl ?_
                    refine PW.widen (kc' := k3 * 20 + 110) (ks' := k3 * 120 + 660) (by omega) (by omega) ?_
                    exact ih3 (r + 1) h4 (by omega) W4
                | succ k4 ih4 =>
                  intro q h4 hik4 W4
                  have hi4 : q < npk σ := by omega
                  refine PW.widen (kc' := k3 * 20 + k4 * 3 + 113) (ks' := k3 * 120 + k4 * 18 + 678) (by omega) (by omega) ?_
                  refine pw_iload (pc2 := 252) dL_isSound_250 rfl 0 rfl ?_
                  refine pw_iload_n (pc2 := 253) dL_isSound_252 rfl rfl 5 rfl ?_
                  refine pw_icmp_ge (tgt := 372) (pc2 := 256) dL_isSound_253 (by decide) rfl (fun c253 => by exact absurd c253 (fun z => by have := (nI_leI (a := npk σ) (b := q) (by omega) (by omega)).mp z; omega)) (fun _ => ?_)
                  refine pw_aload_n (pc2 := 257) dL_isSound_256 rfl rfl 8 rfl (by first | exact rf_ref _ | exact rf_opt _ | exact rf_nul) ?_
                  refine pw_aload_n (pc2 := 258) dL_isSound_257 rfl rfl 7 rfl (by first | exact rf_ref _ | exact rf_opt _ | exact rf_nul) ?_
                  refine pw_iload (pc2 := 260) dL_isSound_258 rfl 3 rfl ?_
                  refine pw_aaldN (pc2 := 261) 6 rfl rfl W4.c60 (i := r) (by first | assumption | omega) (by omega) dL_isSound_260 rfl ?_
                  refine pw_topV (rowv (by first | assumption | omega)) ?_
                  refine pw_iconst (pc2 := 262) (v := 0) dL_isSound_261 rfl (by decide) ?_
                  refine pw_ialdN (pc2 := 263) (W4.c61 (by omega)) (i := 0) (by first | assumption | omega) (by omega) dL_isSound_262 rfl ?_
                  refine pw_topE (y := nI (ofr r)) ((HD r hi3).1) ?_
                  refine pw_aload_n (pc2 := 264) dL_isSound_263 rfl rfl 7 rfl (by first | exact rf_ref _ | exact rf_opt _ | exact rf_nul) ?_
                  refine pw_iload (pc2 := 266) dL_isSound_264 rfl 3 rfl ?_
                  refine pw_aaldN (pc2 := 267) 6 rfl rfl W4.c60 (i := r) (by first | assumption | omega) (by omega) dL_isSound_266 rfl ?_
                  refine pw_topV (rowv (by first | assumption | omega)) ?_
                  refine pw_iconst (pc2 := 268) (v := 1) dL_isSound_267 rfl (by decide) ?_
                  refine pw_ialdN (pc2 := 269) (W4.c61 (by omega)) (i := 1) (by first | assumption | omega) (by omega) dL_isSound_268 rfl ?_
                  refine pw_topE (y := σ.1 40 r 0) ((HD r hi3).2.1) ?_
                  refine pw_bipush (pc2 := 271) (v := 10) dL_isSound_269 rfl (by decide) ?_
                  refine pw_iload (pc2 := 273) dL_isSound_271 rfl 0 rfl ?_
                  refine pw_iadd (pc2 := 274) dL_isSound_273 rfl ?_
                  refine pw_topE (y := nI (10 + q)) (nI_add_ 10 q) ?_
                  refine PW.widen (kc' := k3 * 20 + k4 * 3 + 110 + 3) (ks' := k3 * 120 + k4 * 18 + 660 + 18) (by omega) (by omega) ?_
                  refine pw_lookS (kc := k3 * 20 + k4 * 3 + 110) (ks := k3 * 120 + k4 * 18 + 660) (pc2 := 277) (k_relL W4 HJ hi3 hi4) cs_L_152 rfl dL_isSound_274 rfl (by omega) rfl (by first | decide | simp [cat_rf, Value.category]) (fun h52 W52 => ?_)
                  refine pw_istore (pc2 := 279) (L2 := [(9, Value.int (vG σ (σ.2.2 45 r q))), (8, Value.int (nI q)), (7, Value.int (hyN σ r q)), (6, Value.int 0), (5, Value.int (nI r)), (4, Value.int (gdN σ (r + 1))), (3, Value.int (nI (npk σ))), (2, Value.int (nI (nrl σ))), (1, Value.ref (A 60 0)), (0, Value.ref (A 0 0))]) dL_isSound_277 rfl (by decide) rfl ?_
                  refine pw_iload (pc2 := 281) dL_isSound_279 rfl 0 rfl ?_
                  refine pw_if_lt (tgt := 300) (pc2 := 284) dL_isSound_281 (by decide) rfl (fun c281 => by exact absurd c281 (lk_nn HW HJ hi3 q)) (fun _ => ?_)
                  refine pw_iload (pc2 := 286) dL_isSound_284 rfl 1 rfl ?_
                  refine pw_aload_n (pc2 := 287) dL_isSound_286 rfl rfl 8 rfl (by first | exact rf_ref _ | exact rf_opt _ | exact rf_nul) ?_
                  refine pw_iload (pc2 := 289) dL_isSound_287 rfl 4 rfl ?_
                  refine pw_aaldN (pc2 := 290) 6 rfl rfl W52.c60 (i := r) (by first | assumption | omega) (by omega) dL_isSound_289 rfl ?_
                  refine pw_topV (rowv (by first | assumption | omega)) ?_
                  refine pw_iconst (pc2 := 291) (v := 0) dL_isSound_290 rfl (by decide) ?_
                  refine pw_ialdN (pc2 := 292) (W52.c61 (by omega)) (i := 0) (by first | assumption | omega) (by omega) dL_isSound_291 rfl ?_
                  refine pw_topE (y := nI (ofr r)) ((HD r hi3).1) ?_
                  refine pw_icmp_lt (tgt := 302) (pc2 := 295) dL_isSound_292 (by decide) rfl (fun c292 => ?_) (fun c292 => ?_)
                  · rcases opt_cases (σ.2.2 45 r q) with hl | ⟨x, hl⟩
                    · refine pw_iconst (pc2 := 303) (v := 0) dL_isSound_302 rfl (by decide) ?_
                      refine pw_istore (pc2 := 305) (L2 := [(10, Value.int 0), (9, Value.int (vG σ (σ.2.2 45 r q))), (8, Value.int (nI q)), (7, Value.int (hyN σ r q)), (6, Value.int 0), (5, Value.int (nI r)), (4, Value.int (gdN σ (r + 1))), (3, Value.int (nI (npk σ))), (2, Value.int (nI (nrl σ))), (1, Value.ref (A 60 0)), (0, Value.ref (A 0 0))]) dL_isSound_303 rfl (by decide) rfl ?_
                      refine pw_iload (pc2 := 307) dL_isSound_305 rfl 0 rfl ?_
                      refine pw_iload_n (pc2 := 308) dL_isSound_307 rfl rfl 8 rfl ?_
                      refine pw_icmp_ge (tgt := 366) (pc2 := 311) dL_isSound_308 (by decide) rfl (fun c308 => ?_) (fun c308 => ?_)
                      · refine pw_iinc (pc2 := 369) (v := nI (q + 1)) (L2 := [(8, Value.int (nI (q + 1))), (10, Value.int 0), (9, Value.int (vG σ (σ.2.2 45 r q))), (7, Value.int (hyN σ r q)), (6, Value.int 0), (5, Value.int (nI r)), (4, Value.int (gdN σ (r + 1))), (3, Value.int (nI (npk σ))), (2, Value.int (nI (nrl σ))), (1, Value.ref (A 60 0)), (0, Value.ref (A 0 0))]) dL_isSound_366 rfl 2 rfl (by show nI _ + 1 = nI _; exact nI_1 _) (by decide) rfl ?_
                        refine pw_goto (tgt := 250) dL_isSound_369 (by decide) ?_
                        rw [← hyN_n hl]
                        refine PW.sub (L2 := [(8, Value.int (nI (q + 1))), (7, Value.int (hyN σ r (q + 1))), (6, Value.int 0), (5, Value.int (nI r)), (4, Value.int (gdN σ (r + 1))), (3, Value.int (nI (npk σ))), (2, Value.int (nI (nrl σ))), (1, Value.ref (A 60 0)), (0, Value.ref (A 0 0))]) [0, 3, 4, 5, 6, 7, 8, 9, 10] rfl ?_
                        refine PW.widen (kc' := k3 * 20 + k4 * 3 + 110) (ks' := k3 * 120 + k4 * 18 + 660) (by omega) (by omega) ?_
                        exact ih4 (q + 1) h52 (by omega) W52
                      · refine pw_iload (pc2 := 313) dL_isSound_311 rfl 1 rfl ?_
                        refine pw_if_le (tgt := 366) (pc2 := 316) dL_isSound_313 (by decide) rfl (fun _ => ?_) (fun c313 => by exact absurd (lk_non hl) c313)
                        refine pw_iinc (pc2 := 369) (v := nI (q + 1)) (L2 := [(8, Value.int (nI (q + 1))), (10, Value.int 0), (9, Value.int (vG σ (σ.2.2 45 r q))), (7, Value.int (hyN σ r q)), (6, Value.int 0), (5, Value.int (nI r)), (4, Value.int (gdN σ (r + 1))), (3, Value.int (nI (npk σ))), (2, Value.int (nI (nrl σ))), (1, Value.ref (A 60 0)), (0, Value.ref (A 0 0))]) dL_isSound_366 rfl 2 rfl (by show nI _ + 1 = nI _; exact nI_1 _) (by decide) rfl ?_
                        refine pw_goto (tgt := 250) dL_isSound_369 (by decide) ?_
                        rw [← hyN_n hl]
                        refine PW.sub (L2 := [(8, Value.int (nI (q + 1))), (7, Value.int (hyN σ r (q + 1))), (6, Value.int 0), (5, Value.int (nI r)), (4, Value.int (gdN σ (r + 1))), (3, Value.int (nI (npk σ))), (2, Value.int (nI (nrl σ))), (1, Value.ref (A 60 0)), (0, Value.ref (A 0 0))]) [0, 3, 4, 5, 6, 7, 8, 9, 10] rfl ?_
                        refine PW.widen (kc' := k3 * 20 + k4 * 3 + 110) (ks' := k3 * 120 + k4 * 18 + 660) (by omega) (by omega) ?_
                        exact ih4 (q + 1) h52 (by omega) W52
                    · have hx1 : ofr x = q := ((HJ.2.2.2.1.1 r hi3).1 q x hl).1
                      have hx2 : x < nrl σ := HW.p45 hi3 q x hl
                      refine pw_iconst (pc2 := 303) (v := 0) dL_isSound_302 rfl (by decide) ?_
                      refine pw_istore (pc2 := 305) (L2 := [(10, Value.int 0), (9, Value.int (vG σ (σ.2.2 45 r q))), (8, Value.int (nI q)), (7, Value.int (hyN σ r q)), (6, Value.int 0), (5, Value.int (nI r)), (4, Value.int (gdN σ (r + 1))), (3, Value.int (nI (npk σ))), (2, Value.int (nI (nrl σ))), (1, Value.ref (A 60 0)), (0, Value.ref (A 0 0))]) dL_isSound_303 rfl (by decide) rfl ?_
                      rw [kyN_0 (σ := σ) (r := r) (n := q) (x := x)]
                      have lp5 : ∀ (k5 k9 : Nat) (h5 : hp), k9 + k5 = nrl σ → WS G h5 A σ → PW G ML_isSound d noA (E0 G (QL G A σ (.int 1)) noX) (k3 * 20 + k4 * 3 + k5 * 0 + 110) (k3 * 120 + k4 * 18 + k5 * 0 + 660) 305 [(10, Value.int (nI k9)), (9, Value.int (vG σ (σ.2.2 45 r q))), (8, Value.int (nI q)), (7, Value.int (kyN σ r q x k9)), (6, Value.int 0), (5, Value.int (nI r)), (4, Value.int (gdN σ (r + 1))), (3, Value.int (nI (npk σ))), (2, Value.int (nI (nrl σ))), (1, Value.ref (A 60 0)), (0, Value.ref (A 0 0))] [] h5 := by
                        intro k5
                        induction k5 with
                        | zero =>
                          intro k9 h5 hik5 W5
                          have hi5 : nrl σ = k9 := by omega
                          subst hi5
                          refine PW.widen (kc' := k3 * 20 + k4 * 3 + 110) (ks' := k3 * 120 + k4 * 18 + 660) (by omega) (by omega) ?_
                          refine pw_iload (pc2 := 307) dL_isSound_305 rfl 0 rfl ?_
                          refine pw_iload_n (pc2 := 308) dL_isSound_307 rfl rfl 8 rfl ?_
                          refine pw_icmp_ge (tgt := 366) (pc2 := 311) dL_isSound_308 (by decide) rfl (fun _ => ?_) (fun c308 => by exact absurd (Int32.le_refl _) c308)
                          refine pw_iinc (pc2 := 369) (v := nI (q + 1)) (L2 := [(8, Value.int (nI (q + 1))), (10, Value.int (nI (nrl σ))), (9, Value.int (vG σ (σ.2.2 45 r q))), (7, Value.int (kyN σ r q x (nrl σ))), (6, Value.int 0), (5, Value.int (nI r)), (4, Value.int (gdN σ (r + 1))), (3, Value.int (nI (npk σ))), (2, Value.int (nI (nrl σ))), (1, Value.ref (A 60 0)), (0, Value.ref (A 0 0))]) dL_isSound_366 rfl 2 rfl (by show nI _ + 1 = nI _; exact nI_1 _) (by decide) rfl ?_
                          refine pw_goto (tgt := 250) dL_isSound_369 (by decide) ?_
                          rw [kyN_e hl hx2]
                          refine PW.sub (L2 := [(8, Value.int (nI (q + 1))), (7, Value.int (hyN σ r (q + 1))), (6, Value.int 0), (5, Value.int (nI r)), (4, Value.int (gdN σ (r + 1))), (3, Value.int (nI (npk σ))), (2, Value.int (nI (nrl σ))), (1, Value.ref (A 60 0)), (0, Value.ref (A 0 0))]) [0, 3, 4, 5, 6, 7, 8, 9, 10] rfl ?_
                          refine PW.widen (kc' := k3 * 20 + k4 * 3 + 110) (ks' := k3 * 120 + k4 * 18 + 660) (by omega) (by omega) ?_
                          exact ih4 (q + 1) h5 (by omega) W5
                        | succ k5 ih5 =>
                          intro k9 h5 hik5 W5
                          have hi5 : k9 < nrl σ := by omega
                          refine PW.widen (kc' := k3 * 20 + k4 * 3 + k5 * 0 + 110) (ks' := k3 * 120 + k4 * 18 + k5 * 0 + 660) (by omega) (by omega) ?_
                          refine pw_iload (pc2 := 307) dL_isSound_305 rfl 0 rfl ?_
                          refine pw_iload_n (pc2 := 308) dL_isSound_307 rfl rfl 8 rfl ?_
                          refine pw_icmp_ge (tgt := 366) (pc2 := 311) dL_isSound_308 (by decide) rfl (fun c308 => by exact absurd c308 (fun z => by have := (nI_leI (a := nrl σ) (b := k9) (by omega) (by omega)).mp z; omega)) (fun _ => ?_)
                          refine pw_iload (pc2 := 313) dL_isSound_311 rfl 1 rfl ?_
                          refine pw_if_le (tgt := 366) (pc2 := 316) dL_isSound_313 (by decide) rfl (fun c313 => by exact absurd c313 (lk_pos HW HJ hi3 hl)) (fun _ => ?_)
                          refine pw_iload (pc2 := 318) dL_isSound_316 rfl 3 rfl ?_
                          by_cases hK : KY σ r q x k9
                          · refine pw_topE (y := 1) (kyN_1 hK) ?_
                            refine pw_if_ne (tgt := 353) (pc2 := 321) dL_isSound_318 (by decide) rfl (fun _ => ?_) (fun c318 => by exact absurd c318 (by decide))
                            refine pw_iconst (pc2 := 354) (v := 1) dL_isSound_353 rfl (by decide) ?_
                            refine pw_goto (tgt := 358) dL_isSound_354 (by decide) ?_
                            refine pw_topE (y := kyN σ r q x (k9 + 1)) ((kyN_1 (KY_s hK)).symm) ?_
                            refine pw_istore (pc2 := 360) (L2 := [(7, Value.int (kyN σ r q x (k9 + 1))), (10, Value.int (nI k9)), (9, Value.int (vG σ (σ.2.2 45 r q))), (8, Value.int (nI q)), (6, Value.int 0), (5, Value.int (nI r)), (4, Value.int (gdN σ (r + 1))), (3, Value.int (nI (npk σ))), (2, Value.int (nI (nrl σ))), (1, Value.ref (A 60 0)), (0, Value.ref (A 0 0))]) dL_isSound_358 rfl (by decide) rfl ?_
                            refine pw_iinc (pc2 := 363) (v := nI (k9 + 1)) (L2 := [(10, Value.int (nI (k9 + 1))), (7, Value.int (kyN σ r q x (k9 + 1))), (9, Value.int (vG σ (σ.2.2 45 r q))), (8, Value.int (nI q)), (6, Value.int 0), (5, Value.int (nI r)), (4, Value.int (gdN σ (r + 1))), (3, Value.int (nI (npk σ))), (2, Value.int (nI (nrl σ))), (1, Value.ref (A 60 0)), (0, Value.ref (A 0 0))]) dL_isSound_360 rfl 1 rfl (by show nI _ + 1 = nI _; exact nI_1 _) (by decide) rfl ?_
                            refine pw_goto (tgt := 305) dL_isSound_363 (by decide) ?_
                            refine PW.sub (L2 := [(10, Value.int (nI (k9 + 1))), (9, Value.int (vG σ (σ.2.2 45 r q))), (8, Value.int (nI q)), (7, Value.int (kyN σ r q x (k9 + 1))), (6, Value.int 0), (5, Value.int (nI r)), (4, Value.int (gdN σ (r + 1))), (3, Value.int (nI (npk σ))), (2, Value.int (nI (nrl σ))), (1, Value.ref (A 60 0)), (0, Value.ref (A 0 0))]) [0, 2, 3, 1, 4, 5, 6, 7, 8, 9, 10] rfl ?_
                            refine PW.widen (kc' := k3 * 20 + k4 * 3 + k5 * 0 + 110) (ks' := k3 * 120 + k4 * 18 + k5 * 0 + 660) (by omega) (by omega) ?_
                            exact ih5 (k9 + 1) h5 (by omega) W5
                          · refine pw_topE (y := 0) (kyN_f hK) ?_
                            refine pw_if_ne (tgt := 353) (pc2 := 321) dL_isSound_318 (by decide) rfl (fun c318 => by exact absurd (by decide) c318) (fun _ => ?_)
                            refine pw_aload_n (pc2 := 322) dL_isSound_321 rfl rfl 9 rfl (by first | exact rf_ref _ | exact rf_opt _ | exact rf_nul) ?_
                            refine pw_iload (pc2 := 324) dL_isSound_322 rfl 0 rfl ?_
                            refine pw_aaldN (pc2 := 325) 6 rfl rfl W5.c60 (i := k9) (by first | assumption | omega) (by omega) dL_isSound_324 rfl ?_
                            refine pw_topV (rowv (by first | assumption | omega)) ?_
                            refine pw_iconst (pc2 := 326) (v := 0) dL_isSound_325 rfl (by decide) ?_
                            refine pw_ialdN (pc2 := 327) (W5.c61 (by omega)) (i := 0) (by first | assumption | omega) (by omega) dL_isSound_326 rfl ?_
                            refine pw_topE (y := nI (ofr k9)) ((HD k9 hi5).1) ?_
                            refine pw_iload (pc2 := 329) dL_isSound_327 rfl 2 rfl ?_
                            refine pw_icmp_ne (tgt := 357) (pc2 := 332) dL_isSound_329 (by decide) rfl (fun c329 => ?_) (fun c329 => ?_)
                            · refine pw_iconst (pc2 := 358) (v := 0) dL_isSound_357 rfl (by decide) ?_
                              refine pw_topE (y := kyN σ r q x (k9 + 1)) ((kyN_f (KY_n hK (Or.inl (fun z => c329 (by rw [z, hx1]))))).symm) ?_
                              refine pw_istore (pc2 := 360) (L2 := [(7, Value.int (kyN σ r q x (k9 + 1))), (10, Value.int (nI k9)), (9, Value.int (vG σ (σ.2.2 45 r q))), (8, Value.int (nI q)), (6, Value.int 0), (5, Value.int (nI r)), (4, Value.int (gdN σ (r + 1))), (3, Value.int (nI (npk σ))), (2, Value.int (nI (nrl σ))), (1, Value.ref (A 60 0)), (0, Value.ref (A 0 0))]) dL_isSound_358 rfl (by decide) rfl ?_
                              refine pw_iinc (pc2 := 363) (v := nI (k9 + 1)) (L2 := [(10, Value.int (nI (k9 + 1))), (7, Value.int (kyN σ r q x (k9 + 1))), (9, Value.int (vG σ (σ.2.2 45 r q))), (8, Value.int (nI q)), (6, Value.int 0), (5, Value.int (nI r)), (4, Value.int (gdN σ (r + 1))), (3, Value.int (nI (npk σ))), (2, Value.int (nI (nrl σ))), (1, Value.ref (A 60 0)), (0, Value.ref (A 0 0))]) dL_isSound_360 rfl 1 rfl (by show nI _ + 1 = nI _; exact nI_1 _) (by decide) rfl ?_
                              refine pw_goto (tgt := 305) dL_isSound_363 (by decide) ?_
                              refine PW.sub (L2 := [(10, Value.int (nI (k9 + 1))), (9, Value.int (vG σ (σ.2.2 45 r q))), (8, Value.int (nI q)), (7, Value.int (kyN σ r q x (k9 + 1))), (6, Value.int 0), (5, Value.int (nI r)), (4, Value.int (gdN σ (r + 1))), (3, Value.int (nI (npk σ))), (2, Value.int (nI (nrl σ))), (1, Value.ref (A 60 0)), (0, Value.ref (A 0 0))]) [0, 2, 3, 1, 4, 5, 6, 7, 8, 9, 10] rfl ?_
                              refine PW.widen (kc' := k3 * 20 + k4 * 3 + k5 * 0 + 110) (ks' := k3 * 120 + k4 * 18 + k5 * 0 + 660) (by omega) (by omega) ?_
                              exact ih5 (k9 + 1) h5 (by omega) W5
                            · refine pw_aload_n (pc2 := 333) dL_isSound_332 rfl rfl 9 rfl (by first | exact rf_ref _ | exact rf_opt _ | exact rf_nul) ?_
                              refine pw_iload (pc2 := 335) dL_isSound_333 rfl 0 rfl ?_
                              refine pw_aaldN (pc2 := 336) 6 rfl rfl W5.c60 (i := k9) (by first | assumption | omega) (by omega) dL_isSound_335 rfl ?_
                              refine pw_topV (rowv (by first | assumption | omega)) ?_
                              refine pw_iconst (pc2 := 337) (v := 1) dL_isSound_336 rfl (by decide) ?_
                              refine pw_ialdN (pc2 := 338) (W5.c61 (by omega)) (i := 1) (by first | assumption | omega) (by omega) dL_isSound_337 rfl ?_
                              refine pw_topE (y := σ.1 40 k9 0) ((HD k9 hi5).2.1) ?_
                              refine pw_iload (pc2 := 340) dL_isSound_338 rfl 1 rfl ?_
                              refine pw_icmp_ne (tgt := 357) (pc2 := 343) dL_isSound_340 (by decide) rfl (fun c340 => ?_) (fun c340 => ?_)
                              · refine pw_iconst (pc2 := 358) (v := 0) dL_isSound_357 rfl (by decide) ?_
                                refine pw_topE (y := kyN σ r q x (k9 + 1)) ((kyN_f (KY_n hK (Or.inl (fun z => c340 (by rw [z]; exact (congrArg (vG σ) hl).symm))))).symm) ?_
                                refine pw_istore (pc2 := 360) (L2 := [(7, Value.int (kyN σ r q x (k9 + 1))), (10, Value.int (nI k9)), (9, Value.int (vG σ (σ.2.2 45 r q))), (8, Value.int (nI q)), (6, Value.int 0), (5, Value.int (nI r)), (4, Value.int (gdN σ (r + 1))), (3, Value.int (nI (npk σ))), (2, Value.int (nI (nrl σ))), (1, Value.ref (A 60 0)), (0, Value.ref (A 0 0))]) dL_isSound_358 rfl (by decide) rfl ?_
                                refine pw_iinc (pc2 := 363) (v := nI (k9 + 1)) (L2 := [(10, Value.int (nI (k9 + 1))), (7, Value.int (kyN σ r q x (k9 + 1))), (9, Value.int (vG σ (σ.2.2 45 r q))), (8, Value.int (nI q)), (6, Value.int 0), (5, Value.int (nI r)), (4, Value.int (gdN σ (r + 1))), (3, Value.int (nI (npk σ))), (2, Value.int (nI (nrl σ))), (1, Value.ref (A 60 0)), (0, Value.ref (A 0 0))]) dL_isSound_360 rfl 1 rfl (by show nI _ + 1 = nI _; exact nI_1 _) (by decide) rfl ?_
                                refine pw_goto (tgt := 305) dL_isSound_363 (by decide) ?_
                                refine PW.sub (L2 := [(10, Value.int (nI (k9 + 1))), (9, Value.int (vG σ (σ.2.2 45 r q))), (8, Value.int (nI q)), (7, Value.int (kyN σ r q x (k9 + 1))), (6, Value.int 0), (5, Value.int (nI r)), (4, Value.int (gdN σ (r + 1))), (3, Value.int (nI (npk σ))), (2, Value.int (nI (nrl σ))), (1, Value.ref (A 60 0)), (0, Value.ref (A 0 0))]) [0, 2, 3, 1, 4, 5, 6, 7, 8, 9, 10] rfl ?_
                                refine PW.widen (kc' := k3 * 20 + k4 * 3 + k5 * 0 + 110) (ks' := k3 * 120 + k4 * 18 + k5 * 0 + 660) (by omega) (by omega) ?_
                                exact ih5 (k9 + 1) h5 (by omega) W5
                              · refine pw_aload_n (pc2 := 344) dL_isSound_343 rfl rfl 9 rfl (by first | exact rf_ref _ | exact rf_opt _ | exact rf_nul) ?_
                                refine pw_iload (pc2 := 346) dL_isSound_344 rfl 0 rfl ?_
                                refine pw_aaldN (pc2 := 347) 6 rfl rfl W5.c60 (i := k9) (by first | assumption | omega) (by omega) dL_isSound_346 rfl ?_
                                refine pw_topV (rowv (by first | assumption | omega)) ?_
                                refine pw_iconst (pc2 := 348) (v := 2) dL_isSound_347 rfl (by decide) ?_
                                refine pw_ialdN (pc2 := 349) (W5.c61 (by omega)) (i := 2) (by first | assumption | omega) (by omega) dL_isSound_348 rfl ?_
                                refine pw_topE (y := σ.1 40 k9 2) ((HD k9 hi5).2.2) ?_
                                refine pw_iconst (pc2 := 350) (v := 1) dL_isSound_349 rfl (by decide) ?_
                                refine pw_icmp_ne (tgt := 357) (pc2 := 353) dL_isSound_350 (by decide) rfl (fun c350 => ?_) (fun c350 => ?_)
                                · refine pw_iconst (pc2 := 358) (v := 0) dL_isSound_357 rfl (by decide) ?_
                                  refine pw_topE (y := kyN σ r q x (k9 + 1)) ((kyN_f (KY_n hK (ne_or0 (HW.b40 hx2) c350))).symm) ?_
                                  refine pw_istore (pc2 := 360) (L2 := [(7, Value.int (kyN σ r q x (k9 + 1))), (10, Value.int (nI k9)), (9, Value.int (vG σ (σ.2.2 45 r q))), (8, Value.int (nI q)), (6, Value.int 0), (5, Value.int (nI r)), (4, Value.int (gdN σ (r + 1))), (3, Value.int (nI (npk σ))), (2, Value.int (nI (nrl σ))), (1, Value.ref (A 60 0)), (0, Value.ref (A 0 0))]) dL_isSound_358 rfl (by decide) rfl ?_
                                  refine pw_iinc (pc2 := 363) (v := nI (k9 + 1)) (L2 := [(10, Value.int (nI (k9 + 1))), (7, Value.int (kyN σ r q x (k9 + 1))), (9, Value.int (vG σ (σ.2.2 45 r q))), (8, Value.int (nI q)), (6, Value.int 0), (5, Value.int (nI r)), (4, Value.int (gdN σ (r + 1))), (3, Value.int (nI (npk σ))), (2, Value.int (nI (nrl σ))), (1, Value.ref (A 60 0)), (0, Value.ref (A 0 0))]) dL_isSound_360 rfl 1 rfl (by show nI _ + 1 = nI _; exact nI_1 _) (by decide) rfl ?_
                                  refine pw_goto (tgt := 305) dL_isSound_363 (by decide) ?_
                                  refine PW.sub (L2 := [(10, Value.int (nI (k9 + 1))), (9, Value.int (vG σ (σ.2.2 45 r q))), (8, Value.int (nI q)), (7, Value.int (kyN σ r q x (k9 + 1))), (6, Value.int 0), (5, Value.int (nI r)), (4, Value.int (gdN σ (r + 1))), (3, Value.int (nI (npk σ))), (2, Value.int (nI (nrl σ))), (1, Value.ref (A 60 0)), (0, Value.ref (A 0 0))]) [0, 2, 3, 1, 4, 5, 6, 7, 8, 9, 10] rfl ?_
                                  refine PW.widen (kc' := k3 * 20 + k4 * 3 + k5 * 0 + 110) (ks' := k3 * 120 + k4 * 18 + k5 * 0 + 660) (by omega) (by omega) ?_
                                  exact ih5 (k9 + 1) h5 (by omega) W5
                                · refine pw_iconst (pc2 := 354) (v := 1) dL_isSound_353 rfl (by decide) ?_
                                  refine pw_goto (tgt := 358) dL_isSound_354 (by decide) ?_
                                  refine pw_topE (y := kyN σ r q x (k9 + 1)) ((kyN_1 (Or.inr (by have ex : k9 = x := HJ.2.2.2.1.inj hi5 hx2 ((nI_inj (by have := HJ.2.2.1.1 k9 hi5; omega) (by omega) c329).trans hx1.symm) (c340.trans (congrArg (vG σ) hl)); exact ⟨by omega, by rw [← ex, c350]; decide⟩))).symm) ?_
                                  refine pw_istore (pc2 := 360) (L2 := [(7, Value.int (kyN σ r q x (k9 + 1))), (10, Value.int (nI k9)), (9, Value.int (vG σ (σ.2.2 45 r q))), (8, Value.int (nI q)), (6, Value.int 0), (5, Value.int (nI r)), (4, Value.int (gdN σ (r + 1))), (3, Value.int (nI (npk σ))), (2, Value.int (nI (nrl σ))), (1, Value.ref (A 60 0)), (0, Value.ref (A 0 0))]) dL_isSound_358 rfl (by decide) rfl ?_
                                  refine pw_iinc (pc2 := 363) (v := nI (k9 + 1)) (L2 := [(10, Value.int (nI (k9 + 1))), (7, Value.int (kyN σ r q x (k9 + 1))), (9, Value.int (vG σ (σ.2.2 45 r q))), (8, Value.int (nI q)), (6, Value.int 0), (5, Value.int (nI r)), (4, Value.int (gdN σ (r + 1))), (3, Value.int (nI (npk σ))), (2, Value.int (nI (nrl σ))), (1, Value.ref (A 60 0)), (0, Value.ref (A 0 0))]) dL_isSound_360 rfl 1 rfl (by show nI _ + 1 = nI _; exact nI_1 _) (by decide) rfl ?_
                                  refine pw_goto (tgt := 305) dL_isSound_363 (by decide) ?_
                                  refine PW.sub (L2 := [(10, Value.int (nI (k9 + 1))), (9, Value.int (vG σ (σ.2.2 45 r q))), (8, Value.int (nI q)), (7, Value.int (kyN σ r q x (k9 + 1))), (6, Value.int 0), (5, Value.int (nI r)), (4, Value.int (gdN σ (r + 1))), (3, Value.int (nI (npk σ))), (2, Value.int (nI (nrl σ))), (1, Value.ref (A 60 0)), (0, Value.ref (A 0 0))]) [0, 2, 3, 1, 4, 5, 6, 7, 8, 9, 10] rfl ?_
                                  refine PW.widen (kc' := k3 * 20 + k4 * 3 + k5 * 0 + 110) (ks' := k3 * 120 + k4 * 18 + k5 * 0 + 660) (by omega) (by omega) ?_
                                  exact ih5 (k9 + 1) h5 (by omega) W5
                      refine PW.sub (L2 := [(10, Value.int 0), (9, Value.int (vG σ (σ.2.2 45 r q))), (8, Value.int (nI q)), (7, Value.int (kyN σ r q x 0)), (6, Value.int 0), (5, Value.int (nI r)), (4, Value.int (gdN σ (r + 1))), (3, Value.int (nI (npk σ))), (2, Value.int (nI (nrl σ))), (1, Value.ref (A 60 0)), (0, Value.ref (A 0 0))]) [0, 1, 2, 3, 4, 5, 6, 7, 8, 9, 10] rfl ?_
                      refine PW.widen (kc' := k3 * 20 + k4 * 3 + (nrl σ - 0) * 0 + 110) (ks' := k3 * 120 + k4 * 18 + (nrl σ - 0) * 0 + 660) (by omega) (by omega) ?_
                      exact lp5 (nrl σ - 0) 0 h52 (by omega) W52
                  · refine pw_iload (pc2 := 297) dL_isSound_295 rfl 0 rfl ?_
                    refine pw_if_le (tgt := 302) (pc2 := 300) dL_isSound_297 (by decide) rfl (fun _ => ?_) (fun c297 => by exact absurd (lk_hi HW HJ hi3 hi4 c292) c297)
                    rcases opt_cases (σ.2.2 45 r q) with hl | ⟨x, hl⟩
                    · refine pw_iconst (pc2 := 303) (v := 0) dL_isSound_302 rfl (by decide) ?_
                      refine pw_istore (pc2 := 305) (L2 := [(10, Value.int 0), (9, Value.int (vG σ (σ.2.2 45 r q))), (8, Value.int (nI q)), (7, Value.int (hyN σ r q)), (6, Value.int 0), (5, Value.int (nI r)), (4, Value.int (gdN σ (r + 1))), (3, Value.int (nI (npk σ))), (2, Value.int (nI (nrl σ))), (1, Value.ref (A 60 0)), (0, Value.ref (A 0 0))]) dL_isSound_303 rfl (by decide) rfl ?_
                      refine pw_iload (pc2 := 307) dL_isSound_305 rfl 0 rfl ?_
                      refine pw_iload_n (pc2 := 308) dL_isSound_307 rfl rfl 8 rfl ?_
                      refine pw_icmp_ge (tgt := 366) (pc2 := 311) dL_isSound_308 (by decide) rfl (fun c308 => ?_) (fun c308 => ?_)
                      · refine pw_iinc (pc2 := 369) (v := nI (q + 1)) (L2 := [(8, Value.int (nI (q + 1))), (10, Value.int 0), (9, Value.int (vG σ (σ.2.2 45 r q))), (7, Value.int (hyN σ r q)), (6, Value.int 0), (5, Value.int (nI r)), (4, Value.int (gdN σ (r + 1))), (3, Value.int (nI (npk σ))), (2, Value.int (nI (nrl σ))), (1, Value.ref (A 60 0)), (0, Value.ref (A 0 0))]) dL_isSound_366 rfl 2 rfl (by show nI _ + 1 = nI _; exact nI_1 _) (by decide) rfl ?_
                        refine pw_goto (tgt := 250) dL_isSound_369 (by decide) ?_
                        rw [← hyN_n hl]
                        refine PW.sub (L2 := [(8, Value.int (nI (q + 1))), (7, Value.int (hyN σ r (q + 1))), (6, Value.int 0), (5, Value.int (nI r)), (4, Value.int (gdN σ (r + 1))), (3, Value.int (nI (npk σ))), (2, Value.int (nI (nrl σ))), (1, Value.ref (A 60 0)), (0, Value.ref (A 0 0))]) [0, 3, 4, 5, 6, 7, 8, 9, 10] rfl ?_
                        refine PW.widen (kc' := k3 * 20 + k4 * 3 + 110) (ks' := k3 * 120 + k4 * 18 + 660) (by omega) (by omega) ?_
                        exact ih4 (q + 1) h52 (by omega) W52
                      · refine pw_iload (pc2 := 313) dL_isSound_311 rfl 1 rfl ?_
                        refine pw_if_le (tgt := 366) (pc2 := 316) dL_isSound_313 (by decide) rfl (fun _ => ?_) (fun c313 => by exact absurd (lk_non hl) c313)
                        refine pw_iinc (pc2 := 369) (v := nI (q + 1)) (L2 := [(8, Value.int (nI (q + 1))), (10, Value.int 0), (9, Value.int (vG σ (σ.2.2 45 r q))), (7, Value.int (hyN σ r q)), (6, Value.int 0), (5, Value.int (nI r)), (4, Value.int (gdN σ (r + 1))), (3, Value.int (nI (npk σ))), (2, Value.int (nI (nrl σ))), (1, Value.ref (A 60 0)), (0, Value.ref (A 0 0))]) dL_isSound_366 rfl 2 rfl (by show nI _ + 1 = nI _; exact nI_1 _) (by decide) rfl ?_
                        refine pw_goto (tgt := 250) dL_isSound_369 (by decide) ?_
                        rw [← hyN_n hl]
                        refine PW.sub (L2 := [(8, Value.int (nI (q + 1))), (7, Value.int (hyN σ r (q + 1))), (6, Value.int 0), (5, Value.int (nI r)), (4, Value.int (gdN σ (r + 1))), (3, Value.int (nI (npk σ))), (2, Value.int (nI (nrl σ))), (1, Value.ref (A 60 0)), (0, Value.ref (A 0 0))]) [0, 3, 4, 5, 6, 7, 8, 9, 10] rfl ?_
                        refine PW.widen (kc' := k3 * 20 + k4 * 3 + 110) (ks' := k3 * 120 + k4 * 18 + 660) (by omega) (by omega) ?_
                        exact ih4 (q + 1) h52 (by omega) W52
                    · have hx1 : ofr x = q := ((HJ.2.2.2.1.1 r hi3).1 q x hl).1
                      have hx2 : x < nrl σ := HW.p45 hi3 q x hl
                      refine pw_iconst (pc2 := 303) (v := 0) dL_isSound_302 rfl (by decide) ?_
                      refine pw_istore (pc2 := 305) (L2 := [(10, Value.int 0), (9, Value.int (vG σ (σ.2.2 45 r q))), (8, Value.int (nI q)), (7, Value.int (hyN σ r q)), (6, Value.int 0), (5, Value.int (nI r)), (4, Value.int (gdN σ (r + 1))), (3, Value.int (nI (npk σ))), (2, Value.int (nI (nrl σ))), (1, Value.ref (A 60 0)), (0, Value.ref (A 0 0))]) dL_isSound_303 rfl (by decide) rfl ?_
                      rw [kyN_0 (σ := σ) (r := r) (n := q) (x := x)]
                      have lp5 : ∀ (k5 k9 : Nat) (h5 : hp), k9 + k5 = nrl σ → WS G h5 A σ → PW G ML_isSound d noA (E0 G (QL G A σ (.int 1)) noX) (k3 * 20 + k4 * 3 + k5 * 0 + 110) (k3 * 120 + k4 * 18 + k5 * 0 + 660) 305 [(10, Value.int (nI k9)), (9, Value.int (vG σ (σ.2.2 45 r q))), (8, Value.int (nI q)), (7, Value.int (kyN σ r q x k9)), (6, Value.int 0), (5, Value.int (nI r)), (4, Value.int (gdN σ (r + 1))), (3, Value.int (nI (npk σ))), (2, Value.int (nI (nrl σ))), (1, Value.ref (A 60 0)), (0, Value.ref (A 0 0))] [] h5 := by
                        intro k5
                        induction k5 with
                        | zero =>
                          intro k9 h5 hik5 W5
                          have hi5 : nrl σ = k9 := by omega
                          subst hi5
                          refine PW.widen (kc' := k3 * 20 + k4 * 3 + 110) (ks' := k3 * 120 + k4 * 18 + 660) (by omega) (by omega) ?_
                          refine pw_iload (pc2 := 307) dL_isSound_305 rfl 0 rfl ?_
                          refine pw_iload_n (pc2 := 308) dL_isSound_307 rfl rfl 8 rfl ?_
                          refine pw_icmp_ge (tgt := 366) (pc2 := 311) dL_isSound_308 (by decide) rfl (fun _ => ?_) (fun c308 => by exact absurd (Int32.le_refl _) c308)
                          refine pw_iinc (pc2 := 369) (v := nI (q + 1)) (L2 := [(8, Value.int (nI (q + 1))), (10, Value.int (nI (nrl σ))), (9, Value.int (vG σ (σ.2.2 45 r q))), (7, Value.int (kyN σ r q x (nrl σ))), (6, Value.int 0), (5, Value.int (nI r)), (4, Value.int (gdN σ (r + 1))), (3, Value.int (nI (npk σ))), (2, Value.int (nI (nrl σ))), (1, Value.ref (A 60 0)), (0, Value.ref (A 0 0))]) dL_isSound_366 rfl 2 rfl (by show nI _ + 1 = nI _; exact nI_1 _) (by decide) rfl ?_
                          refine pw_goto (tgt := 250) dL_isSound_369 (by decide) ?_
                          rw [kyN_e hl hx2]
                          refine PW.sub (L2 := [(8, Value.int (nI (q + 1))), (7, Value.int (hyN σ r (q + 1))), (6, Value.int 0), (5, Value.int (nI r)), (4, Value.int (gdN σ (r + 1))), (3, Value.int (nI (npk σ))), (2, Value.int (nI (nrl σ))), (1, Value.ref (A 60 0)), (0, Value.ref (A 0 0))]) [0, 3, 4, 5, 6, 7, 8, 9, 10] rfl ?_
                          refine PW.widen (kc' := k3 * 20 + k4 * 3 + 110) (ks' := k3 * 120 + k4 * 18 + 660) (by omega) (by omega) ?_
                          exact ih4 (q + 1) h5 (by omega) W5
                        | succ k5 ih5 =>
                          intro k9 h5 hik5 W5
                          have hi5 : k9 < nrl σ := by omega
                          refine PW.widen (kc' := k3 * 20 + k4 * 3 + k5 * 0 + 110) (ks' := k3 * 120 + k4 * 18 + k5 * 0 + 660) (by omega) (by omega) ?_
                          refine pw_iload (pc2 := 307) dL_isSound_305 rfl 0 rfl ?_
                          refine pw_iload_n (pc2 := 308) dL_isSound_307 rfl rfl 8 rfl ?_
                          refine pw_icmp_ge (tgt := 366) (pc2 := 311) dL_isSound_308 (by decide) rfl (fun c308 => by exact absurd c308 (fun z => by have := (nI_leI (a := nrl σ) (b := k9) (by omega) (by omega)).mp z; omega)) (fun _ => ?_)
                          refine pw_iload (pc2 := 313) dL_isSound_311 rfl 1 rfl ?_
                          refine pw_if_le (tgt := 366) (pc2 := 316) dL_isSound_313 (by decide) rfl (fun c313 => by exact absurd c313 (lk_pos HW HJ hi3 hl)) (fun _ => ?_)
                          refine pw_iload (pc2 := 318) dL_isSound_316 rfl 3 rfl ?_
                          by_cases hK : KY σ r q x k9
                          · refine pw_topE (y := 1) (kyN_1 hK) ?_
                            refine pw_if_ne (tgt := 353) (pc2 := 321) dL_isSound_318 (by decide) rfl (fun _ => ?_) (fun c318 => by exact absurd c318 (by decide))
                            refine pw_iconst (pc2 := 354) (v := 1) dL_isSound_353 rfl (by decide) ?_
                            refine pw_goto (tgt := 358) dL_isSound_354 (by decide) ?_
                            refine pw_topE (y := kyN σ r q x (k9 + 1)) ((kyN_1 (KY_s hK)).symm) ?_
                            refine pw_istore (pc2 := 360) (L2 := [(7, Value.int (kyN σ r q x (k9 + 1))), (10, Value.int (nI k9)), (9, Value.int (vG σ (σ.2.2 45 r q))), (8, Value.int (nI q)), (6, Value.int 0), (5, Value.int (nI r)), (4, Value.int (gdN σ (r + 1))), (3, Value.int (nI (npk σ))), (2, Value.int (nI (nrl σ))), (1, Value.ref (A 60 0)), (0, Value.ref (A 0 0))]) dL_isSound_358 rfl (by decide) rfl ?_
                            refine pw_iinc (pc2 := 363) (v := nI (k9 + 1)) (L2 := [(10, Value.int (nI (k9 + 1))), (7, Value.int (kyN σ r q x (k9 + 1))), (9, Value.int (vG σ (σ.2.2 45 r q))), (8, Value.int (nI q)), (6, Value.int 0), (5, Value.int (nI r)), (4, Value.int (gdN σ (r + 1))), (3, Value.int (nI (npk σ))), (2, Value.int (nI (nrl σ))), (1, Value.ref (A 60 0)), (0, Value.ref (A 0 0))]) dL_isSound_360 rfl 1 rfl (by show nI _ + 1 = nI _; exact nI_1 _) (by decide) rfl ?_
                            refine pw_goto (tgt := 305) dL_isSound_363 (by decide) ?_
                            refine PW.sub (L2 := [(10, Value.int (nI (k9 + 1))), (9, Value.int (vG σ (σ.2.2 45 r q))), (8, Value.int (nI q)), (7, Value.int (kyN σ r q x (k9 + 1))), (6, Value.int 0), (5, Value.int (nI r)), (4, Value.int (gdN σ (r + 1))), (3, Value.int (nI (npk σ))), (2, Value.int (nI (nrl σ))), (1, Value.ref (A 60 0)), (0, Value.ref (A 0 0))]) [0, 2, 3, 1, 4, 5, 6, 7, 8, 9, 10] rfl ?_
                            refine PW.widen (kc' := k3 * 20 + k4 * 3 + k5 * 0 + 110) (ks' := k3 * 120 + k4 * 18 + k5 * 0 + 660) (by omega) (by omega) ?_
                            exact ih5 (k9 + 1) h5 (by omega) W5
                          · refine pw_topE (y := 0) (kyN_f hK) ?_
                            refine pw_if_ne (tgt := 353) (pc2 := 321) dL_isSound_318 (by decide) rfl (fun c318 => by exact absurd (by decide) c318) (fun _ => ?_)
                            refine pw_aload_n (pc2 := 322) dL_isSound_321 rfl rfl 9 rfl (by first | exact rf_ref _ | exact rf_opt _ | exact rf_nul) ?_
                            refine pw_iload (pc2 := 324) dL_isSound_322 rfl 0 rfl ?_
                            refine pw_aaldN (pc2 := 325) 6 rfl rfl W5.c60 (i := k9) (by first | assumption | omega) (by omega) dL_isSound_324 rfl ?_
                            refine pw_topV (rowv (by first | assumption | omega)) ?_
                            refine pw_iconst (pc2 := 326) (v := 0) dL_isSound_325 rfl (by decide) ?_
                            refine pw_ialdN (pc2 := 327) (W5.c61 (by omega)) (i := 0) (by first | assumption | omega) (by omega) dL_isSound_326 rfl ?_
                            refine pw_topE (y := nI (ofr k9)) ((HD k9 hi5).1) ?_
                            refine pw_iload (pc2 := 329) dL_isSound_327 rfl 2 rfl ?_
                            refine pw_icmp_ne (tgt := 357) (pc2 := 332) dL_isSound_329 (by decide) rfl (fun c329 => ?_) (fun c329 => ?_)
                            · refine pw_iconst (pc2 := 358) (v := 0) dL_isSound_357 rfl (by decide) ?_
                              refine pw_topE (y := kyN σ r q x (k9 + 1)) ((kyN_f (KY_n hK (Or.inl (fun z => c329 (by rw [z, hx1]))))).symm) ?_
                              refine pw_istore (pc2 := 360) (L2 := [(7, Value.int (kyN σ r q x (k9 + 1))), (10, Value.int (nI k9)), (9, Value.int (vG σ (σ.2.2 45 r q))), (8, Value.int (nI q)), (6, Value.int 0), (5, Value.int (nI r)), (4, Value.int (gdN σ (r + 1))), (3, Value.int (nI (npk σ))), (2, Value.int (nI (nrl σ))), (1, Value.ref (A 60 0)), (0, Value.ref (A 0 0))]) dL_isSound_358 rfl (by decide) rfl ?_
                              refine pw_iinc (pc2 := 363) (v := nI (k9 + 1)) (L2 := [(10, Value.int (nI (k9 + 1))), (7, Value.int (kyN σ r q x (k9 + 1))), (9, Value.int (vG σ (σ.2.2 45 r q))), (8, Value.int (nI q)), (6, Value.int 0), (5, Value.int (nI r)), (4, Value.int (gdN σ (r + 1))), (3, Value.int (nI (npk σ))), (2, Value.int (nI (nrl σ))), (1, Value.ref (A 60 0)), (0, Value.ref (A 0 0))]) dL_isSound_360 rfl 1 rfl (by show nI _ + 1 = nI _; exact nI_1 _) (by decide) rfl ?_
                              refine pw_goto (tgt := 305) dL_isSound_363 (by decide) ?_
                              refine PW.sub (L2 := [(10, Value.int (nI (k9 + 1))), (9, Value.int (vG σ (σ.2.2 45 r q))), (8, Value.int (nI q)), (7, Value.int (kyN σ r q x (k9 + 1))), (6, Value.int 0), (5, Value.int (nI r)), (4, Value.int (gdN σ (r + 1))), (3, Value.int (nI (npk σ))), (2, Value.int (nI (nrl σ))), (1, Value.ref (A 60 0)), (0, Value.ref (A 0 0))]) [0, 2, 3, 1, 4, 5, 6, 7, 8, 9, 10] rfl ?_
                              refine PW.widen (kc' := k3 * 20 + k4 * 3 + k5 * 0 + 110) (ks' := k3 * 120 + k4 * 18 + k5 * 0 + 660) (by omega) (by omega) ?_
                              exact ih5 (k9 + 1) h5 (by omega) W5
                            · refine pw_aload_n (pc2 := 333) dL_isSound_332 rfl rfl 9 rfl (by first | exact rf_ref _ | exact rf_opt _ | exact rf_nul) ?_
                              refine pw_iload (pc2 := 335) dL_isSound_333 rfl 0 rfl ?_
                              refine pw_aaldN (pc2 := 336) 6 rfl rfl W5.c60 (i := k9) (by first | assumption | omega) (by omega) dL_isSound_335 rfl ?_
                              refine pw_topV (rowv (by first | assumption | omega)) ?_
                              refine pw_iconst (pc2 := 337) (v := 1) dL_isSound_336 rfl (by decide) ?_
                              refine pw_ialdN (pc2 := 338) (W5.c61 (by omega)) (i := 1) (by first | assumption | omega) (by omega) dL_isSound_337 rfl ?_
                              refine pw_topE (y := σ.1 40 k9 0) ((HD k9 hi5).2.1) ?_
                              refine pw_iload (pc2 := 340) dL_isSound_338 rfl 1 rfl ?_
                              refine pw_icmp_ne (tgt := 357) (pc2 := 343) dL_isSound_340 (by decide) rfl (fun c340 => ?_) (fun c340 => ?_)
                              · refine pw_iconst (pc2 := 358) (v := 0) dL_isSound_357 rfl (by decide) ?_
                                refine pw_topE (y := kyN σ r q x (k9 + 1)) ((kyN_f (KY_n hK (Or.inl (fun z => c340 (by rw [z]; exact (congrArg (vG σ) hl).symm))))).symm) ?_
                                refine pw_istore (pc2 := 360) (L2 := [(7, Value.int (kyN σ r q x (k9 + 1))), (10, Value.int (nI k9)), (9, Value.int (vG σ (σ.2.2 45 r q))), (8, Value.int (nI q)), (6, Value.int 0), (5, Value.int (nI r)), (4, Value.int (gdN σ (r + 1))), (3, Value.int (nI (npk σ))), (2, Value.int (nI (nrl σ))), (1, Value.ref (A 60 0)), (0, Value.ref (A 0 0))]) dL_isSound_358 rfl (by decide) rfl ?_
                                refine pw_iinc (pc2 := 363) (v := nI (k9 + 1)) (L2 := [(10, Value.int (nI (k9 + 1))), (7, Value.int (kyN σ r q x (k9 + 1))), (9, Value.int (vG σ (σ.2.2 45 r q))), (8, Value.int (nI q)), (6, Value.int 0), (5, Value.int (nI r)), (4, Value.int (gdN σ (r + 1))), (3, Value.int (nI (npk σ))), (2, Value.int (nI (nrl σ))), (1, Value.ref (A 60 0)), (0, Value.ref (A 0 0))]) dL_isSound_360 rfl 1 rfl (by show nI _ + 1 = nI _; exact nI_1 _) (by decide) rfl ?_
                                refine pw_goto (tgt := 305) dL_isSound_363 (by decide) ?_
                                refine PW.sub (L2 := [(10, Value.int (nI (k9 + 1))), (9, Value.int (vG σ (σ.2.2 45 r q))), (8, Value.int (nI q)), (7, Value.int (kyN σ r q x (k9 + 1))), (6, Value.int 0), (5, Value.int (nI r)), (4, Value.int (gdN σ (r + 1))), (3, Value.int (nI (npk σ))), (2, Value.int (nI (nrl σ))), (1, Value.ref (A 60 0)), (0, Value.ref (A 0 0))]) [0, 2, 3, 1, 4, 5, 6, 7, 8, 9, 10] rfl ?_
                                refine PW.widen (kc' := k3 * 20 + k4 * 3 + k5 * 0 + 110) (ks' := k3 * 120 + k4 * 18 + k5 * 0 + 660) (by omega) (by omega) ?_
                                exact ih5 (k9 + 1) h5 (by omega) W5
                              · refine pw_aload_n (pc2 := 344) dL_isSound_343 rfl rfl 9 rfl (by first | exact rf_ref _ | exact rf_opt _ | exact rf_nul) ?_
                                refine pw_iload (pc2 := 346) dL_isSound_344 rfl 0 rfl ?_
                                refine pw_aaldN (pc2 := 347) 6 rfl rfl W5.c60 (i := k9) (by first | assumption | omega) (by omega) dL_isSound_346 rfl ?_
                                refine pw_topV (rowv (by first | assumption | omega)) ?_
                                refine pw_iconst (pc2 := 348) (v := 2) dL_isSound_347 rfl (by decide) ?_
                                refine pw_ialdN (pc2 := 349) (W5.c61 (by omega)) (i := 2) (by first | assumption | omega) (by omega) dL_isSound_348 rfl ?_
                                refine pw_topE (y := σ.1 40 k9 2) ((HD k9 hi5).2.2) ?_
                                refine pw_iconst (pc2 := 350) (v := 1) dL_isSound_349 rfl (by decide) ?_
                                refine pw_icmp_ne (tgt := 357) (pc2 := 353) dL_isSound_350 (by decide) rfl (fun c350 => ?_) (fun c350 => ?_)
                                · refine pw_iconst (pc2 := 358) (v := 0) dL_isSound_357 rfl (by decide) ?_
                                  refine pw_topE (y := kyN σ r q x (k9 + 1)) ((kyN_f (KY_n hK (ne_or0 (HW.b40 hx2) c350))).symm) ?_
                                  refine pw_istore (pc2 := 360) (L2 := [(7, Value.int (kyN σ r q x (k9 + 1))), (10, Value.int (nI k9)), (9, Value.int (vG σ (σ.2.2 45 r q))), (8, Value.int (nI q)), (6, Value.int 0), (5, Value.int (nI r)), (4, Value.int (gdN σ (r + 1))), (3, Value.int (nI (npk σ))), (2, Value.int (nI (nrl σ))), (1, Value.ref (A 60 0)), (0, Value.ref (A 0 0))]) dL_isSound_358 rfl (by decide) rfl ?_
                                  refine pw_iinc (pc2 := 363) (v := nI (k9 + 1)) (L2 := [(10, Value.int (nI (k9 + 1))), (7, Value.int (kyN σ r q x (k9 + 1))), (9, Value.int (vG σ (σ.2.2 45 r q))), (8, Value.int (nI q)), (6, Value.int 0), (5, Value.int (nI r)), (4, Value.int (gdN σ (r + 1))), (3, Value.int (nI (npk σ))), (2, Value.int (nI (nrl σ))), (1, Value.ref (A 60 0)), (0, Value.ref (A 0 0))]) dL_isSound_360 rfl 1 rfl (by show nI _ + 1 = nI _; exact nI_1 _) (by decide) rfl ?_
                                  refine pw_goto (tgt := 305) dL_isSound_363 (by decide) ?_
                                  refine PW.sub (L2 := [(10, Value.int (nI (k9 + 1))), (9, Value.int (vG σ (σ.2.2 45 r q))), (8, Value.int (nI q)), (7, Value.int (kyN σ r q x (k9 + 1))), (6, Value.int 0), (5, Value.int (nI r)), (4, Value.int (gdN σ (r + 1))), (3, Value.int (nI (npk σ))), (2, Value.int (nI (nrl σ))), (1, Value.ref (A 60 0)), (0, Value.ref (A 0 0))]) [0, 2, 3, 1, 4, 5, 6, 7, 8, 9, 10] rfl ?_
                                  refine PW.widen (kc' := k3 * 20 + k4 * 3 + k5 * 0 + 110) (ks' := k3 * 120 + k4 * 18 + k5 * 0 + 660) (by omega) (by omega) ?_
                                  exact ih5 (k9 + 1) h5 (by omega) W5
                                · refine pw_iconst (pc2 := 354) (v := 1) dL_isSound_353 rfl (by decide) ?_
                                  refine pw_goto (tgt := 358) dL_isSound_354 (by decide) ?_
                                  refine pw_topE (y := kyN σ r q x (k9 + 1)) ((kyN_1 (Or.inr (by have ex : k9 = x := HJ.2.2.2.1.inj hi5 hx2 ((nI_inj (by have := HJ.2.2.1.1 k9 hi5; omega) (by omega) c329).trans hx1.symm) (c340.trans (congrArg (vG σ) hl)); exact ⟨by omega, by rw [← ex, c350]; decide⟩))).symm) ?_
                                  refine pw_istore (pc2 := 360) (L2 := [(7, Value.int (kyN σ r q x (k9 + 1))), (10, Value.int (nI k9)), (9, Value.int (vG σ (σ.2.2 45 r q))), (8, Value.int (nI q)), (6, Value.int 0), (5, Value.int (nI r)), (4, Value.int (gdN σ (r + 1))), (3, Value.int (nI (npk σ))), (2, Value.int (nI (nrl σ))), (1, Value.ref (A 60 0)), (0, Value.ref (A 0 0))]) dL_isSound_358 rfl (by decide) rfl ?_
                                  refine pw_iinc (pc2 := 363) (v := nI (k9 + 1)) (L2 := [(10, Value.int (nI (k9 + 1))), (7, Value.int (kyN σ r q x (k9 + 1))), (9, Value.int (vG σ (σ.2.2 45 r q))), (8, Value.int (nI q)), (6, Value.int 0), (5, Value.int (nI r)), (4, Value.int (gdN σ (r + 1))), (3, Value.int (nI (npk σ))), (2, Value.int (nI (nrl σ))), (1, Value.ref (A 60 0)), (0, Value.ref (A 0 0))]) dL_isSound_360 rfl 1 rfl (by show nI _ + 1 = nI _; exact nI_1 _) (by decide) rfl ?_
                                  refine pw_goto (tgt := 305) dL_isSound_363 (by decide) ?_
                                  refine PW.sub (L2 := [(10, Value.int (nI (k9 + 1))), (9, Value.int (vG σ (σ.2.2 45 r q))), (8, Value.int (nI q)), (7, Value.int (kyN σ r q x (k9 + 1))), (6, Value.int 0), (5, Value.int (nI r)), (4, Value.int (gdN σ (r + 1))), (3, Value.int (nI (npk σ))), (2, Value.int (nI (nrl σ))), (1, Value.ref (A 60 0)), (0, Value.ref (A 0 0))]) [0, 2, 3, 1, 4, 5, 6, 7, 8, 9, 10] rfl ?_
                                  refine PW.widen (kc' := k3 * 20 + k4 * 3 + k5 * 0 + 110) (ks' := k3 * 120 + k4 * 18 + k5 * 0 + 660) (by omega) (by omega) ?_
                                  exact ih5 (k9 + 1) h5 (by omega) W5
                      refine PW.sub (L2 := [(10, Value.int 0), (9, Value.int (vG σ (σ.2.2 45 r q))), (8, Value.int (nI q)), (7, Value.int (kyN σ r q x 0)), (6, Value.int 0), (5, Value.int (nI r)), (4, Value.int (gdN σ (r + 1))), (3, Value.int (nI (npk σ))), (2, Value.int (nI (nrl σ))), (1, Value.ref (A 60 0)), (0, Value.ref (A 0 0))]) [0, 1, 2, 3, 4, 5, 6, 7, 8, 9, 10] rfl ?_
                      refine PW.widen (kc' := k3 * 20 + k4 * 3 + (nrl σ - 0) * 0 + 110) (ks' := k3 * 120 + k4 * 18 + (nrl σ - 0) * 0 + 660) (by omega) (by omega) ?_
                      exact lp5 (nrl σ - 0) 0 h52 (by omega) W52
              refine PW.sub (L2 := [(8, Value.int 0), (7, Value.int (hyN σ r 0)), (6, Value.int 0), (5, Value.int (nI r)), (4, Value.int (gdN σ (r + 1))), (3, Value.int (nI (npk σ))), (2, Value.int (nI (nrl σ))), (1, Value.ref (A 60 0)), (0, Value.ref (A 0 0))]) [0, 1, 3, 4, 2, 5, 6, 7, 8] rfl ?_
              refine PW.widen (kc' := k3 * 20 + (npk σ - 0) * 3 + 110) (ks' := k3 * 120 + (npk σ - 0) * 18 + 660) (by omega) (by omega) ?_
              exact lp4 (npk σ - 0) 0 h12 (by omega) W12
      refine PW.sub (L2 := [(5, Value.int 0), (4, Value.int 0), (3, Value.int (nI (npk σ))), (2, Value.int (nI (nrl σ))), (1, Value.ref (A 60 0)), (0, Value.ref (A 0 0))]) [0, 1, 2, 3, 4, 5] rfl ?_
      refine PW.widen (kc' := (nrl σ - 0) * 20 + 110) (ks' := (nrl σ - 0) * 120 + 660) (by omega) (by omega) ?_
      exact lp3 (nrl σ - 0) 0 h1 (by omega) W1
    | succ k1 ih1 =>
      intro i h1 hik1 W1
      have hi1 : i < npk σ := by omega
      refine PW.widen (kc' := k1 * 69 + 579) (ks' := k1 * 414 + 3474) (by omega) (by omega) ?_
      refine pw_iload (pc2 := 10) dL_isSound_8 rfl 0 rfl ?_
      refine pw_iload_n (pc2 := 11) dL_isSound_10 rfl rfl 1 rfl ?_
      refine pw_icmp_ge (tgt := 180) (pc2 := 14) dL_isSound_11 (by decide) rfl (fun c11 => by exact absurd c11 (fun z => by have := (nI_leI (a := npk σ) (b := i) (by omega) (by omega)).mp z; omega)) (fun _ => ?_)
      cases hs : srS σ i with
      | none =>
        refine pw_iconst (pc2 := 15) (v := 1) dL_isSound_14 rfl (by decide) ?_
        refine pw_istore (pc2 := 17) (L2 := [(5, Value.int 1), (4, Value.int (nI i)), (3, Value.int (nI (npk σ))), (2, Value.int (nI (nrl σ))), (1, Value.ref (A 60 0)), (0, Value.ref (A 0 0))]) dL_isSound_15 rfl (by decide) rfl ?_
        refine pw_iconst (pc2 := 18) (v := 0) dL_isSound_17 rfl (by decide) ?_
        refine pw_istore (pc2 := 20) (L2 := [(6, Value.int 0), (5, Value.int 1), (4, Value.int (nI i)), (3, Value.int (nI (npk σ))), (2, Value.int (nI (nrl σ))), (1, Value.ref (A 60 0)), (0, Value.ref (A 0 0))]) dL_isSound_18 rfl (by decide) rfl ?_
        have lp2 : ∀ (k2 j : Nat) (h2 : hp), j + k2 = npk σ → WS G h2 A σ → PW G ML_isSound d noA (E0 G (QL G A σ (.int 1)) noX) (k1 * 69 + k2 * 11 + 513) (k1 * 414 + k2 * 66 + 3078) 20 [(6, Value.int (nI j)), (5, Value.int (hN j)), (4, Value.int (nI i)), (3, Value.int (nI (npk σ))), (2, Value.int (nI (nrl σ))), (1, Value.ref (A 60 0)), (0, Value.ref (A 0 0))] [] h2 := by
          intro k2
          induction k2 with
          | zero =>
            intro j h2 hik2 W2
            have hi2 : npk σ = j := by omega
            subst hi2
            refine PW.widen (kc' := k1 * 69 + 513) (ks' := k1 * 414 + 3078) (by omega) (by omega) ?_
            refine pw_iload (pc2 := 22) dL_isSound_20 rfl 0 rfl ?_
            refine pw_iload_n (pc2 := 23) dL_isSound_22 rfl rfl 3 rfl ?_
            refine pw_icmp_ge (tgt := 134) (pc2 := 26) dL_isSound_23 (by decide) rfl (fun _ => ?_) (fun c23 => by exact absurd (Int32.le_refl _) c23)
            refine pw_aload_n (pc2 := 135) dL_isSound_134 rfl rfl 6 rfl (by first | exact rf_ref _ | exact rf_opt _ | exact rf_nul) ?_
            refine pw_iload (pc2 := 137) dL_isSound_135 rfl 2 rfl ?_
            refine pw_iconst (pc2 := 138) (v := 3) dL_isSound_137 rfl (by decide) ?_
            refine PW.widen (kc' := k1 * 69 + 512 + 1) (ks' := k1 * 414 + 3072 + 6) (by omega) (by omega) ?_
            refine pw_lookS (kc := k1 * 69 + 512) (ks := k1 * 414 + 3072) (pc2 := 141) (k_of3 W2 hi1) cs_L_109 rfl dL_isSound_138 rfl (by omega) rfl (by first | decide | simp [cat_rf, Value.category]) (fun h69 W69 => ?_)
            refine pw_iconst (pc2 := 142) (v := 1) dL_isSound_141 rfl (by decide) ?_
            refine pw_icmp_ne (tgt := 150) (pc2 := 145) dL_isSound_142 (by decide) rfl (fun _ => ?_) (fun c142 => by exact absurd c142 (can_none hs))
            refine pw_aload_n (pc2 := 151) dL_isSound_150 rfl rfl 6 rfl (by first | exact rf_ref _ | exact rf_opt _ | exact rf_nul) ?_
            refine pw_iload (pc2 := 153) dL_isSound_151 rfl 2 rfl ?_
            refine pw_iconst (pc2 := 154) (v := 4) dL_isSound_153 rfl (by decide) ?_
            refine PW.widen (kc' := k1 * 69 + 511 + 1) (ks' := k1 * 414 + 3066 + 6) (by omega) (by omega) ?_
            refine pw_lookS (kc := k1 * 69 + 511) (ks := k1 * 414 + 3066) (pc2 := 157) (k_of4 W69 hi1) cs_L_109 rfl dL_isSound_154 rfl (by omega) rfl (by first | decide | simp [cat_rf, Value.category]) (fun h70 W70 => ?_)
            refine pw_bipush (pc2 := 159) (v := 100) dL_isSound_157 rfl (by decide) ?_
            refine pw_icmp_lt (tgt := 172) (pc2 := 162) dL_isSound_159 (by decide) rfl (fun c159 => by exact absurd c159 (by obtain ⟨w9, a9, b9, e9⟩ := vAh_nn HW HJ hi1; rw [e9]; exact fun z => by have := (nI_ltI (b := 100) (by omega) (by omega)).mp z; omega)) (fun _ => ?_)
            refine pw_aload_n (pc2 := 163) dL_isSound_162 rfl rfl 6 rfl (by first | exact rf_ref _ | exact rf_opt _ | exact rf_nul) ?_
            refine pw_iload (pc2 := 165) dL_isSound_163 rfl 2 rfl ?_
            refine pw_iconst (pc2 := 166) (v := 2) dL_isSound_165 rfl (by decide) ?_
            refine PW.widen (kc' := k1 * 69 + 510 + 1) (ks' := k1 * 414 + 3060 + 6) (by omega) (by omega) ?_
            refine pw_lookS (kc := k1 * 69 + 510) (ks := k1 * 414 + 3060) (pc2 := 169) (k_of2 W70 HJ hi1) cs_L_109 rfl dL_isSound_166 rfl (by omega) rfl (by first | decide | simp [cat_rf, Value.category]) (fun h71 W71 => ?_)
            refine pw_if_ge (tgt := 174) (pc2 := 172) dL_isSound_169 (by decide) rfl (fun _ => ?_) (fun c169 => by exact absurd (Int32.not_lt.mp (tm_nn HW i)) c169)
            refine pw_iinc (pc2 := 177) (v := nI (i + 1)) (L2 := [(4, Value.int (nI (i + 1))), (6, Value.int (nI (npk σ))), (5, Value.int (hN (npk σ))), (3, Value.int (nI (npk σ))), (2, Value.int (nI (nrl σ))), (1, Value.ref (A 60 0)), (0, Value.ref (A 0 0))]) dL_isSound_174 rfl 2 rfl (by show nI _ + 1 = nI _; exact nI_1 _) (by decide) rfl ?_
            refine pw_goto (tgt := 8) dL_isSound_177 (by decide) ?_
            refine PW.sub (L2 := [(4, Value.int (nI (i + 1))), (3, Value.int (nI (npk σ))), (2, Value.int (nI (nrl σ))), (1, Value.ref (A 60 0)), (0, Value.ref (A 0 0))]) [0, 3, 4, 5, 6] rfl ?_
            refine PW.widen (kc' := k1 * 69 + 510) (ks' := k1 * 414 + 3060) (by omega) (by omega) ?_
            exact ih1 (i + 1) h71 (by omega) W71
          | succ k2 ih2 =>
            intro j h2 hik2 W2
            have hi2 : j < npk σ := by omega
            refine PW.widen (kc' := k1 * 69 + k2 * 11 + 524) (ks' := k1 * 414 + k2 * 66 + 3144) (by omega) (by omega) ?_
            refine pw_iload (pc2 := 22) dL_isSound_20 rfl 0 rfl ?_
            refine pw_iload_n (pc2 := 23) dL_isSound_22 rfl rfl 3 rfl ?_
            refine pw_icmp_ge (tgt := 134) (pc2 := 26) dL_isSound_23 (by decide) rfl (fun c23 => by exact absurd c23 (fun z => by have := (nI_leI (a := npk σ) (b := j) (by omega) (by omega)).mp z; omega)) (fun _ => ?_)
            refine pw_aload_n (pc2 := 27) dL_isSound_26 rfl rfl 6 rfl (by first | exact rf_ref _ | exact rf_opt _ | exact rf_nul) ?_
            refine pw_iload (pc2 := 29) dL_isSound_27 rfl 2 rfl ?_
            refine pw_iload (pc2 := 31) dL_isSound_29 rfl 0 rfl ?_
            refine pw_iconst (pc2 := 32) (v := 0) dL_isSound_31 rfl (by decide) ?_
            refine PW.widen (kc' := k1 * 69 + k2 * 11 + 521 + 3) (ks' := k1 * 414 + k2 * 66 + 3126 + 18) (by omega) (by omega) ?_
            refine pw_lookS (kc := k1 * 69 + k2 * 11 + 521) (ks := k1 * 414 + k2 * 66 + 3126) (pc2 := 35) (k_cho0N W2 hi1 hi2 hs) cs_L_149 rfl dL_isSound_32 rfl (by omega) rfl (by first | decide | simp [cat_rf, Value.category]) (fun h73 W73 => ?_)
            refine pw_istore (pc2 := 37) (L2 := [(7, Value.int (-1002)), (6, Value.int (nI j)), (5, Value.int (hN j)), (4, Value.int (nI i)), (3, Value.int (nI (npk σ))), (2, Value.int (nI (nrl σ))), (1, Value.ref (A 60 0)), (0, Value.ref (A 0 0))]) dL_isSound_35 rfl (by decide) rfl ?_
            refine pw_iload (pc2 := 39) dL_isSound_37 rfl 2 rfl ?_
            refine pw_if_eq (tgt := 51) (pc2 := 42) dL_isSound_39 (by decide) rfl (fun c39 => ?_) (fun c39 => ?_)
            · refine pw_iconst (pc2 := 52) (v := 0) dL_isSound_51 rfl (by decide) ?_
              refine pw_istore (pc2 := 54) (L2 := [(5, Value.int 0), (7, Value.int (-1002)), (6, Value.int (nI j)), (4, Value.int (nI i)), (3, Value.int (nI (npk σ))), (2, Value.int (nI (nrl σ))), (1, Value.ref (A 60 0)), (0, Value.ref (A 0 0))]) dL_isSound_52 rfl (by decide) rfl ?_
              refine pw_iload (pc2 := 56) dL_isSound_54 rfl 1 rfl ?_
              refine pw_aload_n (pc2 := 57) dL_isSound_56 rfl rfl 7 rfl (by first | exact rf_ref _ | exact rf_opt _ | exact rf_nul) ?_
              refine pw_iload (pc2 := 59) dL_isSound_57 rfl 3 rfl ?_
              refine pw_iload (pc2 := 61) dL_isSound_59 rfl 2 rfl ?_
              refine pw_iconst (pc2 := 62) (v := 1) dL_isSound_61 rfl (by decide) ?_
              refine PW.widen (kc' := k1 * 69 + k2 * 11 + 518 + 3) (ks' := k1 * 414 + k2 * 66 + 3108 + 18) (by omega) (by omega) ?_
              refine pw_lookS (kc := k1 * 69 + k2 * 11 + 518) (ks := k1 * 414 + k2 * 66 + 3108) (pc2 := 65) (k_cho1N W73 HJ hi1 hi2 hs) cs_L_149 rfl dL_isSound_62 rfl (by omega) rfl (by first | decide | simp [cat_rf, Value.category]) (fun h74 W74 => ?_)
              refine pw_icmp_ne (tgt := 126) (pc2 := 68) dL_isSound_65 (by decide) rfl (fun c65 => by exact absurd (rfl) c65) (fun _ => ?_)
              refine pw_iload (pc2 := 70) dL_isSound_68 rfl 2 rfl ?_
              refine pw_iload (pc2 := 72) dL_isSound_70 rfl 3 rfl ?_
              refine pw_icmp_lt (tgt := 80) (pc2 := 75) dL_isSound_72 (by decide) rfl (fun c72 => ?_) (fun c72 => ?_)
              · refine pw_iload (pc2 := 82) dL_isSound_80 rfl 1 rfl ?_
                refine pw_if_le (tgt := 97) (pc2 := 85) dL_isSound_82 (by decide) rfl (fun _ => ?_) (fun c82 => by exact absurd (by decide) c82)
                refine pw_iload (pc2 := 99) dL_isSound_97 rfl 1 rfl ?_
                refine pw_if_lt (tgt := 106) (pc2 := 102) dL_isSound_99 (by decide) rfl (fun _ => ?_) (fun c99 => by exact absurd (by decide) c99)
                refine pw_iconst (pc2 := 107) (v := 0) dL_isSound_106 rfl (by decide) ?_
                refine pw_aload_n (pc2 := 108) dL_isSound_107 rfl rfl 7 rfl (by first | exact rf_ref _ | exact rf_opt _ | exact rf_nul) ?_
                refine pw_iload (pc2 := 110) dL_isSound_108 rfl 3 rfl ?_
                refine pw_iconst (pc2 := 111) (v := 0) dL_isSound_110 rfl (by decide) ?_
                refine pw_iconst (pc2 := 112) (v := 0) dL_isSound_111 rfl (by decide) ?_
                refine PW.widen (kc' := k1 * 69 + k2 * 11 + 515 + 3) (ks' := k1 * 414 + k2 * 66 + 3090 + 18) (by omega) (by omega) ?_
                refine pw_lookS (kc := k1 * 69 + k2 * 11 + 515) (ks := k1 * 414 + k2 * 66 + 3090) (pc2 := 115) (k_cho0N W74 hi1 (q := 0) (by omega) hs) cs_L_149 rfl dL_isSound_112 rfl (by omega) rfl (by first | decide | simp [cat_rf, Value.category]) (fun h75 W75 => ?_)
                refine pw_if_lt (tgt := 122) (pc2 := 118) dL_isSound_115 (by decide) rfl (fun _ => ?_) (fun c115 => by exact absurd (by decide) c115)
                refine pw_iconst (pc2 := 123) (v := 0) dL_isSound_122 rfl (by decide) ?_
                refine pw_icmp_eq (tgt := 128) (pc2 := 126) dL_isSound_123 (by decide) rfl (fun _ => ?_) (fun c123 => by exact absurd (by decide) c123)
                refine pw_iinc (pc2 := 131) (v := nI (j + 1)) (L2 := [(6, Value.int (nI (j + 1))), (5, Value.int 0), (7, Value.int (-1002)), (4, Value.int (nI i)), (3, Value.int (nI (npk σ))), (2, Value.int (nI (nrl σ))), (1, Value.ref (A 60 0)), (0, Value.ref (A 0 0))]) dL_isSound_128 rfl 2 rfl (by show nI _ + 1 = nI _; exact nI_1 _) (by decide) rfl ?_
                refine pw_goto (tgt := 20) dL_isSound_131 (by decide) ?_
                refine PW.sub (L2 := [(6, Value.int (nI (j + 1))), (5, Value.int (hN (j + 1))), (4, Value.int (nI i)), (3, Value.int (nI (npk σ))), (2, Value.int (nI (nrl σ))), (1, Value.ref (A 60 0)), (0, Value.ref (A 0 0))]) [0, 1, 3, 4, 5, 6, 7] rfl ?_
                refine PW.widen (kc' := k1 * 69 + k2 * 11 + 513) (ks' := k1 * 414 + k2 * 66 + 3078) (by omega) (by omega) ?_
                exact ih2 (j + 1) h75 (by omega) W75
              · refine pw_iload (pc2 := 77) dL_isSound_75 rfl 1 rfl ?_
                refine pw_if_gt (tgt := 126) (pc2 := 80) dL_isSound_77 (by decide) rfl (fun c77 => by exact absurd c77 (by decide)) (fun _ => ?_)
                refine pw_iload (pc2 := 82) dL_isSound_80 rfl 1 rfl ?_
                refine pw_if_le (tgt := 97) (pc2 := 85) dL_isSound_82 (by decide) rfl (fun _ => ?_) (fun c82 => by exact absurd (by decide) c82)
                refine pw_iload (pc2 := 99) dL_isSound_97 rfl 1 rfl ?_
                refine pw_if_lt (tgt := 106) (pc2 := 102) dL_isSound_99 (by decide) rfl (fun _ => ?_) (fun c99 => by exact absurd (by decide) c99)
                refine pw_iconst (pc2 := 107) (v := 0) dL_isSound_106 rfl (by decide) ?_
                refine pw_aload_n (pc2 := 108) dL_isSound_107 rfl rfl 7 rfl (by first | exact rf_ref _ | exact rf_opt _ | exact rf_nul) ?_
                refine pw_iload (pc2 := 110) dL_isSound_108 rfl 3 rfl ?_
                refine pw_iconst (pc2 := 111) (v := 0) dL_isSound_110 rfl (by decide) ?_
                refine pw_iconst (pc2 := 112) (v := 0) dL_isSound_111 rfl (by decide) ?_
                refine PW.widen (kc' := k1 * 69 + k2 * 11 + 515 + 3) (ks' := k1 * 414 + k2 * 66 + 3090 + 18) (by omega) (by omega) ?_
                refine pw_lookS (kc := k1 * 69 + k2 * 11 + 515) (ks := k1 * 414 + k2 * 66 + 3090) (pc2 := 115) (k_cho0N W74 hi1 (q := 0) (by omega) hs) cs_L_149 rfl dL_isSound_112 rfl (by omega) rfl (by first | decide | simp [cat_rf, Value.category]) (fun h77 W77 => ?_)
                refine pw_if_lt (tgt := 122) (pc2 := 118) dL_isSound_115 (by decide) rfl (fun _ => ?_) (fun c115 => by exact absurd (by decide) c115)
                refine pw_iconst (pc2 := 123) (v := 0) dL_isSound_122 rfl (by decide) ?_
                refine pw_icmp_eq (tgt := 128) (pc2 := 126) dL_isSound_123 (by decide) rfl (fun _ => ?_) (fun c123 => by exact absurd (by decide) c123)
                refine pw_iinc (pc2 := 131) (v := nI (j + 1)) (L2 := [(6, Value.int (nI (j + 1))), (5, Value.int 0), (7, Value.int (-1002)), (4, Value.int (nI i)), (3, Value.int (nI (npk σ))), (2, Value.int (nI (nrl σ))), (1, Value.ref (A 60 0)), (0, Value.ref (A 0 0))]) dL_isSound_128 rfl 2 rfl (by show nI _ + 1 = nI _; exact nI_1 _) (by decide) rfl ?_
                refine pw_goto (tgt := 20) dL_isSound_131 (by decide) ?_
                refine PW.sub (L2 := [(6, Value.int (nI (j + 1))), (5, Value.int (hN (j + 1))), (4, Value.int (nI i)), (3, Value.int (nI (npk σ))), (2, Value.int (nI (nrl σ))), (1, Value.ref (A 60 0)), (0, Value.ref (A 0 0))]) [0, 1, 3, 4, 5, 6, 7] rfl ?_
                refine PW.widen (kc' := k1 * 69 + k2 * 11 + 513) (ks' := k1 * 414 + k2 * 66 + 3078) (by omega) (by omega) ?_
                exact ih2 (j + 1) h77 (by omega) W77
            · refine pw_iload (pc2 := 44) dL_isSound_42 rfl 0 rfl ?_
              refine pw_if_lt (tgt := 51) (pc2 := 47) dL_isSound_44 (by decide) rfl (fun _ => ?_) (fun c44 => by exact absurd (by decide) c44)
              refine pw_iconst (pc2 := 52) (v := 0) dL_isSound_51 rfl (by decide) ?_
              refine pw_istore (pc2 := 54) (L2 := [(5, Value.int 0), (7, Value.int (-1002)), (6, Value.int (nI j)), (4, Value.int (nI i)), (3, Value.int (nI (npk σ))), (2, Value.int (nI (nrl σ))), (1, Value.ref (A 60 0)), (0, Value.ref (A 0 0))]) dL_isSound_52 rfl (by decide) rfl ?_
              refine pw_iload (pc2 := 56) dL_isSound_54 rfl 1 rfl ?_
              refine pw_aload_n (pc2 := 57) dL_isSound_56 rfl rfl 7 rfl (by first | exact rf_ref _ | exact rf_opt _ | exact rf_nul) ?_
              refine pw_iload (pc2 := 59) dL_isSound_57 rfl 3 rfl ?_
              refine pw_iload (pc2 := 61) dL_isSound_59 rfl 2 rfl ?_
              refine pw_iconst (pc2 := 62) (v := 1) dL_isSound_61 rfl (by decide) ?_
              refine PW.widen (kc' := k1 * 69 + k2 * 11 + 518 + 3) (ks' := k1 * 414 + k2 * 66 + 3108 + 18) (by omega) (by omega) ?_
              refine pw_lookS (kc := k1 * 69 + k2 * 11 + 518) (ks := k1 * 414 + k2 * 66 + 3108) (pc2 := 65) (k_cho1N W73 HJ hi1 hi2 hs) cs_L_149 rfl dL_isSound_62 rfl (by omega) rfl (by first | decide | simp [cat_rf, Value.category]) (fun h79 W79 => ?_)
              refine pw_icmp_ne (tgt := 126) (pc2 := 68) dL_isSound_65 (by decide) rfl (fun c65 => by exact absurd (rfl) c65) (fun _ => ?_)
              refine pw_iload (pc2 := 70) dL_isSound_68 rfl 2 rfl ?_
              refine pw_iload (pc2 := 72) dL_isSound_70 rfl 3 rfl ?_
              refine pw_icmp_lt (tgt := 80) (pc2 := 75) dL_isSound_72 (by decide) rfl (fun c72 => ?_) (fun c72 => ?_)
              · refine pw_iload (pc2 := 82) dL_isSound_80 rfl 1 rfl ?_
                refine pw_if_le (tgt := 97) (pc2 := 85) dL_isSound_82 (by decide) rfl (fun _ => ?_) (fun c82 => by exact absurd (by decide) c82)
                refine pw_iload (pc2 := 99) dL_isSound_97 rfl 1 rfl ?_
                refine pw_if_lt (tgt := 106) (pc2 := 102) dL_isSound_99 (by decide) rfl (fun _ => ?_) (fun c99 => by exact absurd (by decide) c99)
                refine pw_iconst (pc2 := 107) (v := 0) dL_isSound_106 rfl (by decide) ?_
                refine pw_aload_n (pc2 := 108) dL_isSound_107 rfl rfl 7 rfl (by first | exact rf_ref _ | exact rf_opt _ | exact rf_nul) ?_
                refine pw_iload (pc2 := 110) dL_isSound_108 rfl 3 rfl ?_
                refine pw_iconst (pc2 := 111) (v := 0) dL_isSound_110 rfl (by decide) ?_
                refine pw_iconst (pc2 := 112) (v := 0) dL_isSound_111 rfl (by decide) ?_
                refine PW.widen (kc' := k1 * 69 + k2 * 11 + 515 + 3) (ks' := k1 * 414 + k2 * 66 + 3090 + 18) (by omega) (by omega) ?_
                refine pw_lookS (kc := k1 * 69 + k2 * 11 + 515) (ks := k1 * 414 + k2 * 66 + 3090) (pc2 := 115) (k_cho0N W79 hi1 (q := 0) (by omega) hs) cs_L_149 rfl dL_isSound_112 rfl (by omega) rfl (by first | decide | simp [cat_rf, Value.category]) (fun h80 W80 => ?_)
                refine pw_if_lt (tgt := 122) (pc2 := 118) dL_isSound_115 (by decide) rfl (fun _ => ?_) (fun c115 => by exact absurd (by decide) c115)
                refine pw_iconst (pc2 := 123) (v := 0) dL_isSound_122 rfl (by decide) ?_
                refine pw_icmp_eq (tgt := 128) (pc2 := 126) dL_isSound_123 (by decide) rfl (fun _ => ?_) (fun c123 => by exact absurd (by decide) c123)
                refine pw_iinc (pc2 := 131) (v := nI (j + 1)) (L2 := [(6, Value.int (nI (j + 1))), (5, Value.int 0), (7, Value.int (-1002)), (4, Value.int (nI i)), (3, Value.int (nI (npk σ))), (2, Value.int (nI (nrl σ))), (1, Value.ref (A 60 0)), (0, Value.ref (A 0 0))]) dL_isSound_128 rfl 2 rfl (by show nI _ + 1 = nI _; exact nI_1 _) (by decide) rfl ?_
                refine pw_goto (tgt := 20) dL_isSound_131 (by decide) ?_
                refine PW.sub (L2 := [(6, Value.int (nI (j + 1))), (5, Value.int (hN (j + 1))), (4, Value.int (nI i)), (3, Value.int (nI (npk σ))), (2, Value.int (nI (nrl σ))), (1, Value.ref (A 60 0)), (0, Value.ref (A 0 0))]) [0, 1, 3, 4, 5, 6, 7] rfl ?_
                refine PW.widen (kc' := k1 * 69 + k2 * 11 + 513) (ks' := k1 * 414 + k2 * 66 + 3078) (by omega) (by omega) ?_
                exact ih2 (j + 1) h80 (by omega) W80
              · refine pw_iload (pc2 := 77) dL_isSound_75 rfl 1 rfl ?_
                refine pw_if_gt (tgt := 126) (pc2 := 80) dL_isSound_77 (by decide) rfl (fun c77 => by exact absurd c77 (by decide)) (fun _ => ?_)
                refine pw_iload (pc2 := 82) dL_isSound_80 rfl 1 rfl ?_
                refine pw_if_le (tgt := 97) (pc2 := 85) dL_isSound_82 (by decide) rfl (fun _ => ?_) (fun c82 => by exact absurd (by decide) c82)
                refine pw_iload (pc2 := 99) dL_isSound_97 rfl 1 rfl ?_
                refine pw_if_lt (tgt := 106) (pc2 := 102) dL_isSound_99 (by decide) rfl (fun _ => ?_) (fun c99 => by exact absurd (by decide) c99)
                refine pw_iconst (pc2 := 107) (v := 0) dL_isSound_106 rfl (by decide) ?_
                refine pw_aload_n (pc2 := 108) dL_isSound_107 rfl rfl 7 rfl (by first | exact rf_ref _ | exact rf_opt _ | exact rf_nul) ?_
                refine pw_iload (pc2 := 110) dL_isSound_108 rfl 3 rfl ?_
                refine pw_iconst (pc2 := 111) (v := 0) dL_isSound_110 rfl (by decide) ?_
                refine pw_iconst (pc2 := 112) (v := 0) dL_isSound_111 rfl (by decide) ?_
                refine PW.widen (kc' := k1 * 69 + k2 * 11 + 515 + 3) (ks' := k1 * 414 + k2 * 66 + 3090 + 18) (by omega) (by omega) ?_
                refine pw_lookS (kc := k1 * 69 + k2 * 11 + 515) (ks := k1 * 414 + k2 * 66 + 3090) (pc2 := 115) (k_cho0N W79 hi1 (q := 0) (by omega) hs) cs_L_149 rfl dL_isSound_112 rfl (by omega) rfl (by first | decide | simp [cat_rf, Value.category]) (fun h82 W82 => ?_)
                refine pw_if_lt (tgt := 122) (pc2 := 118) dL_isSound_115 (by decide) rfl (fun _ => ?_) (fun c115 => by exact absurd (by decide) c115)
                refine pw_iconst (pc2 := 123) (v := 0) dL_isSound_122 rfl (by decide) ?_
                refine pw_icmp_eq (tgt := 128) (pc2 := 126) dL_isSound_123 (by decide) rfl (fun _ => ?_) (fun c123 => by exact absurd (by decide) c123)
                refine pw_iinc (pc2 := 131) (v := nI (j + 1)) (L2 := [(6, Value.int (nI (j + 1))), (5, Value.int 0), (7, Value.int (-1002)), (4, Value.int (nI i)), (3, Value.int (nI (npk σ))), (2, Value.int (nI (nrl σ))), (1, Value.ref (A 60 0)), (0, Value.ref (A 0 0))]) dL_isSound_128 rfl 2 rfl (by show nI _ + 1 = nI _; exact nI_1 _) (by decide) rfl ?_
                refine pw_goto (tgt := 20) dL_isSound_131 (by decide) ?_
                refine PW.sub (L2 := [(6, Value.int (nI (j + 1))), (5, Value.int (hN (j + 1))), (4, Value.int (nI i)), (3, Value.int (nI (npk σ))), (2, Value.int (nI (nrl σ))), (1, Value.ref (A 60 0)), (0, Value.ref (A 0 0))]) [0, 1, 3, 4, 5, 6, 7] rfl ?_
                refine PW.widen (kc' := k1 * 69 + k2 * 11 + 513) (ks' := k1 * 414 + k2 * 66 + 3078) (by omega) (by omega) ?_
                exact ih2 (j + 1) h82 (by omega) W82
        refine PW.sub (L2 := [(6, Value.int 0), (5, Value.int 1), (4, Value.int (nI i)), (3, Value.int (nI (npk σ))), (2, Value.int (nI (nrl σ))), (1, Value.ref (A 60 0)), (0, Value.ref (A 0 0))]) [0, 1, 2, 3, 4, 5, 6] rfl ?_
        refine PW.widen (kc' := k1 * 69 + (npk σ - 0) * 11 + 513) (ks' := k1 * 414 + (npk σ - 0) * 66 + 3078) (by omega) (by omega) ?_
        exact lp2 (npk σ - 0) 0 h1 (by omega) W1
      | some g =>
        refine pw_iconst (pc2 := 15) (v := 1) dL_isSound_14 rfl (by decide) ?_
        refine pw_istore (pc2 := 17) (L2 := [(5, Value.int 1), (4, Value.int (nI i)), (3, Value.int (nI (npk σ))), (2, Value.int (nI (nrl σ))), (1, Value.ref (A 60 0)), (0, Value.ref (A 0 0))]) dL_isSound_15 rfl (by decide) rfl ?_
        refine pw_iconst (pc2 := 18) (v := 0) dL_isSound_17 rfl (by decide) ?_
        refine pw_istore (pc2 := 20) (L2 := [(6, Value.int 0), (5, Value.int 1), (4, Value.int (nI i)), (3, Value.int (nI (npk σ))), (2, Value.int (nI (nrl σ))), (1, Value.ref (A 60 0)), (0, Value.ref (A 0 0))]) dL_isSound_18 rfl (by decide) rfl ?_
        have lp2 : ∀ (k2 j : Nat) (h2 : hp), j + k2 = npk σ → WS G h2 A σ → PW G ML_isSound d noA (E0 G (QL G A σ (.int 1)) noX) (k1 * 69 + k2 * 11 + 513) (k1 * 414 + k2 * 66 + 3078) 20 [(6, Value.int (nI j)), (5, Value.int 1), (4, Value.int (nI i)), (3, Value.int (nI (npk σ))), (2, Value.int (nI (nrl σ))), (1, Value.ref (A 60 0)), (0, Value.ref (A 0 0))] [] h2 := by
          intro k2
          induction k2 with
          | zero =>
            intro j h2 hik2 W2
            have hi2 : npk σ = j := by omega
            subst hi2
            refine PW.widen (kc' := k1 * 69 + 513) (ks' := k1 * 414 + 3078) (by omega) (by omega) ?_
            refine pw_iload (pc2 := 22) dL_isSound_20 rfl 0 rfl ?_
            refine pw_iload_n (pc2 := 23) dL_isSound_22 rfl rfl 3 rfl ?_
            refine pw_icmp_ge (tgt := 134) (pc2 := 26) dL_isSound_23 (by decide) rfl (fun _ => ?_) (fun c23 => by exact absurd (Int32.le_refl _) c23)
            refine pw_aload_n (pc2 := 135) dL_isSound_134 rfl rfl 6 rfl (by first | exact rf_ref _ | exact rf_opt _ | exact rf_nul) ?_
            refine pw_iload (pc2 := 137) dL_isSound_135 rfl 2 rfl ?_
            refine pw_iconst (pc2 := 138) (v := 3) dL_isSound_137 rfl (by decide) ?_
            refine PW.widen (kc' := k1 * 69 + 512 + 1) (ks' := k1 * 414 + 3072 + 6) (by omega) (by omega) ?_
            refine pw_lookS (kc := k1 * 69 + 512) (ks := k1 * 414 + 3072) (pc2 := 141) (k_of3 W2 hi1) cs_L_109 rfl dL_isSound_138 rfl (by omega) rfl (by first | decide | simp [cat_rf, Value.category]) (fun h84 W84 => ?_)
            refine pw_iconst (pc2 := 142) (v := 1) dL_isSound_141 rfl (by decide) ?_
            refine pw_icmp_ne (tgt := 150) (pc2 := 145) dL_isSound_142 (by decide) rfl (fun c142 => ?_) (fun c142 => ?_)
            · refine pw_aload_n (pc2 := 151) dL_isSound_150 rfl rfl 6 rfl (by first | exact rf_ref _ | exact rf_opt _ | exact rf_nul) ?_
              refine pw_iload (pc2 := 153) dL_isSound_151 rfl 2 rfl ?_
              refine pw_iconst (pc2 := 154) (v := 4) dL_isSound_153 rfl (by decide) ?_
              refine PW.widen (kc' := k1 * 69 + 511 + 1) (ks' := k1 * 414 + 3066 + 6) (by omega) (by omega) ?_
              refine pw_lookS (kc := k1 * 69 + 511) (ks := k1 * 414 + 3066) (pc2 := 157) (k_of4 W84 hi1) cs_L_109 rfl dL_isSound_154 rfl (by omega) rfl (by first | decide | simp [cat_rf, Value.category]) (fun h85 W85 => ?_)
              refine pw_bipush (pc2 := 159) (v := 100) dL_isSound_157 rfl (by decide) ?_
              refine pw_icmp_lt (tgt := 172) (pc2 := 162) dL_isSound_159 (by decide) rfl (fun c159 => by exact absurd c159 (by obtain ⟨w9, a9, b9, e9⟩ := vAh_nn HW HJ hi1; rw [e9]; exact fun z => by have := (nI_ltI (b := 100) (by omega) (by omega)).mp z; omega)) (fun _ => ?_)
              refine pw_aload_n (pc2 := 163) dL_isSound_162 rfl rfl 6 rfl (by first | exact rf_ref _ | exact rf_opt _ | exact rf_nul) ?_
              refine pw_iload (pc2 := 165) dL_isSound_163 rfl 2 rfl ?_
              refine pw_iconst (pc2 := 166) (v := 2) dL_isSound_165 rfl (by decide) ?_
              refine PW.widen (kc' := k1 * 69 + 510 + 1) (ks' := k1 * 414 + 3060 + 6) (by omega) (by omega) ?_
              refine pw_lookS (kc := k1 * 69 + 510) (ks := k1 * 414 + 3060) (pc2 := 169) (k_of2 W85 HJ hi1) cs_L_109 rfl dL_isSound_166 rfl (by omega) rfl (by first | decide | simp [cat_rf, Value.category]) (fun h86 W86 => ?_)
              refine pw_if_ge (tgt := 174) (pc2 := 172) dL_isSound_169 (by decide) rfl (fun _ => ?_) (fun c169 => by exact absurd (Int32.not_lt.mp (tm_nn HW i)) c169)
              refine pw_iinc (pc2 := 177) (v := nI (i + 1)) (L2 := [(4, Value.int (nI (i + 1))), (6, Value.int (nI (npk σ))), (5, Value.int 1), (3, Value.int (nI (npk σ))), (2, Value.int (nI (nrl σ))), (1, Value.ref (A 60 0)), (0, Value.ref (A 0 0))]) dL_isSound_174 rfl 2 rfl (by show nI _ + 1 = nI _; exact nI_1 _) (by decide) rfl ?_
              refine pw_goto (tgt := 8) dL_isSound_177 (by decide) ?_
              refine PW.sub (L2 := [(4, Value.int (nI (i + 1))), (3, Value.int (nI (npk σ))), (2, Value.int (nI (nrl σ))), (1, Value.ref (A 60 0)), (0, Value.ref (A 0 0))]) [0, 3, 4, 5, 6] rfl ?_
              refine PW.widen (kc' := k1 * 69 + 510) (ks' := k1 * 414 + 3060) (by omega) (by omega) ?_
              exact ih1 (i + 1) h86 (by omega) W86
            · refine pw_iload (pc2 := 147) dL_isSound_145 rfl 1 rfl ?_
              refine pw_if_eq (tgt := 172) (pc2 := 150) dL_isSound_147 (by decide) rfl (fun c147 => by exact absurd c147 (by decide)) (fun _ => ?_)
              refine pw_aload_n (pc2 := 151) dL_isSound_150 rfl rfl 6 rfl (by first | exact rf_ref _ | exact rf_opt _ | exact rf_nul) ?_
              refine pw_iload (pc2 := 153) dL_isSound_151 rfl 2 rfl ?_
              refine pw_iconst (pc2 := 154) (v := 4) dL_isSound_153 rfl (by decide) ?_
              refine PW.widen (kc' := k1 * 69 + 511 + 1) (ks' := k1 * 414 + 3066 + 6) (by omega) (by omega) ?_
              refine pw_lookS (kc := k1 * 69 + 511) (ks := k1 * 414 + 3066) (pc2 := 157) (k_of4 W84 hi1) cs_L_109 rfl dL_isSound_154 rfl (by omega) rfl (by first | decide | simp [cat_rf, Value.category]) (fun h88 W88 => ?_)
              refine pw_bipush (pc2 := 159) (v := 100) dL_isSound_157 rfl (by decide) ?_
              refine pw_icmp_lt (tgt := 172) (pc2 := 162) dL_isSound_159 (by decide) rfl (fun c159 => by exact absurd c159 (by obtain ⟨w9, a9, b9, e9⟩ := vAh_nn HW HJ hi1; rw [e9]; exact fun z => by have := (nI_ltI (b := 100) (by omega) (by omega)).mp z; omega)) (fun _ => ?_)
              refine pw_aload_n (pc2 := 163) dL_isSound_162 rfl rfl 6 rfl (by first | exact rf_ref _ | exact rf_opt _ | exact rf_nul) ?_
              refine pw_iload (pc2 := 165) dL_isSound_163 rfl 2 rfl ?_
              refine pw_iconst (pc2 := 166) (v := 2) dL_isSound_165 rfl (by decide) ?_
              refine PW.widen (kc' := k1 * 69 + 510 + 1) (ks' := k1 * 414 + 3060 + 6) (by omega) (by omega) ?_
              refine pw_lookS (kc := k1 * 69 + 510) (ks := k1 * 414 + 3060) (pc2 := 169) (k_of2 W88 HJ hi1) cs_L_109 rfl dL_isSound_166 rfl (by omega) rfl (by first | decide | simp [cat_rf, Value.category]) (fun h89 W89 => ?_)
              refine pw_if_ge (tgt := 174) (pc2 := 172) dL_isSound_169 (by decide) rfl (fun _ => ?_) (fun c169 => by exact absurd (Int32.not_lt.mp (tm_nn HW i)) c169)
              refine pw_iinc (pc2 := 177) (v := nI (i + 1)) (L2 := [(4, Value.int (nI (i + 1))), (6, Value.int (nI (npk σ))), (5, Value.int 1), (3, Value.int (nI (npk σ))), (2, Value.int (nI (nrl σ))), (1, Value.ref (A 60 0)), (0, Value.ref (A 0 0))]) dL_isSound_174 rfl 2 rfl (by show nI _ + 1 = nI _; exact nI_1 _) (by decide) rfl ?_
              refine pw_goto (tgt := 8) dL_isSound_177 (by decide) ?_
              refine PW.sub (L2 := [(4, Value.int (nI (i + 1))), (3, Value.int (nI (npk σ))), (2, Value.int (nI (nrl σ))), (1, Value.ref (A 60 0)), (0, Value.ref (A 0 0))]) [0, 3, 4, 5, 6] rfl ?_
              refine PW.widen (kc' := k1 * 69 + 510) (ks' := k1 * 414 + 3060) (by omega) (by omega) ?_
              exact ih1 (i + 1) h89 (by omega) W89
          | succ k2 ih2 =>
            intro j h2 hik2 W2
            have hi2 : j < npk σ := by omega
            refine PW.widen (kc' := k1 * 69 + k2 * 11 + 524) (ks' := k1 * 414 + k2 * 66 + 3144) (by omega) (by omega) ?_
            refine pw_iload (pc2 := 22) dL_isSound_20 rfl 0 rfl ?_
            refine pw_iload_n (pc2 := 23) dL_isSound_22 rfl rfl 3 rfl ?_
            refine pw_icmp_ge (tgt := 134) (pc2 := 26) dL_isSound_23 (by decide) rfl (fun c23 => by exact absurd c23 (fun z => by have := (nI_leI (a := npk σ) (b := j) (by omega) (by omega)).mp z; omega)) (fun _ => ?_)
            refine pw_aload_n (pc2 := 27) dL_isSound_26 rfl rfl 6 rfl (by first | exact rf_ref _ | exact rf_opt _ | exact rf_nul) ?_
            refine pw_iload (pc2 := 29) dL_isSound_27 rfl 2 rfl ?_
            refine pw_iload (pc2 := 31) dL_isSound_29 rfl 0 rfl ?_
            refine pw_iconst (pc2 := 32) (v := 0) dL_isSound_31 rfl (by decide) ?_
            refine PW.widen (kc' := k1 * 69 + k2 * 11 + 521 + 3) (ks' := k1 * 414 + k2 * 66 + 3126 + 18) (by omega) (by omega) ?_
            refine pw_lookS (kc := k1 * 69 + k2 * 11 + 521) (ks := k1 * 414 + k2 * 66 + 3126) (pc2 := 35) (k_cho0S W2 hi1 hi2 hs) cs_L_149 rfl dL_isSound_32 rfl (by omega) rfl (by first | decide | simp [cat_rf, Value.category]) (fun h91 W91 => ?_)
            refine pw_istore (pc2 := 37) (L2 := [(7, Value.int (vG σ (g j))), (6, Value.int (nI j)), (5, Value.int 1), (4, Value.int (nI i)), (3, Value.int (nI (npk σ))), (2, Value.int (nI (nrl σ))), (1, Value.ref (A 60 0)), (0, Value.ref (A 0 0))]) dL_isSound_35 rfl (by decide) rfl ?_
            refine pw_iload (pc2 := 39) dL_isSound_37 rfl 2 rfl ?_
            refine pw_if_eq (tgt := 51) (pc2 := 42) dL_isSound_39 (by decide) rfl (fun c39 => by exact absurd c39 (by decide)) (fun _ => ?_)
            refine pw_iload (pc2 := 44) dL_isSound_42 rfl 0 rfl ?_
            refine pw_if_lt (tgt := 51) (pc2 := 47) dL_isSound_44 (by decide) rfl (fun c44 => by exact absurd c44 (cho_nn HW HJ hi1 hs j)) (fun _ => ?_)
            refine pw_iconst (pc2 := 48) (v := 1) dL_isSound_47 rfl (by decide) ?_
            refine pw_goto (tgt := 52) dL_isSound_48 (by decide) ?_
            refine pw_istore (pc2 := 54) (L2 := [(5, Value.int 1), (7, Value.int (vG σ (g j))), (6, Value.int (nI j)), (4, Value.int (nI i)), (3, Value.int (nI (npk σ))), (2, Value.int (nI (nrl σ))), (1, Value.ref (A 60 0)), (0, Value.ref (A 0 0))]) dL_isSound_52 rfl (by decide) rfl ?_
            refine pw_iload (pc2 := 56) dL_isSound_54 rfl 1 rfl ?_
            refine pw_aload_n (pc2 := 57) dL_isSound_56 rfl rfl 7 rfl (by first | exact rf_ref _ | exact rf_opt _ | exact rf_nul) ?_
            refine pw_iload (pc2 := 59) dL_isSound_57 rfl 3 rfl ?_
            refine pw_iload (pc2 := 61) dL_isSound_59 rfl 2 rfl ?_
            refine pw_iconst (pc2 := 62) (v := 1) dL_isSound_61 rfl (by decide) ?_
            refine PW.widen (kc' := k1 * 69 + k2 * 11 + 518 + 3) (ks' := k1 * 414 + k2 * 66 + 3108 + 18) (by omega) (by omega) ?_
            refine pw_lookS (kc := k1 * 69 + k2 * 11 + 518) (ks := k1 * 414 + k2 * 66 + 3108) (pc2 := 65) (k_cho1S W91 HJ hi1 hi2 hs) cs_L_149 rfl dL_isSound_62 rfl (by omega) rfl (by first | decide | simp [cat_rf, Value.category]) (fun h92 W92 => ?_)
            refine pw_icmp_ne (tgt := 126) (pc2 := 68) dL_isSound_65 (by decide) rfl (fun c65 => by exact absurd (rfl) c65) (fun _ => ?_)
            refine pw_iload (pc2 := 70) dL_isSound_68 rfl 2 rfl ?_
            refine pw_iload (pc2 := 72) dL_isSound_70 rfl 3 rfl ?_
            refine pw_icmp_lt (tgt := 80) (pc2 := 75) dL_isSound_72 (by decide) rfl (fun c72 => ?_) (fun c72 => ?_)
            · refine pw_iload (pc2 := 82) dL_isSound_80 rfl 1 rfl ?_
              refine pw_if_le (tgt := 97) (pc2 := 85) dL_isSound_82 (by decide) rfl (fun c82 => ?_) (fun c82 => ?_)
              · refine pw_iload (pc2 := 99) dL_isSound_97 rfl 1 rfl ?_
                refine pw_if_lt (tgt := 106) (pc2 := 102) dL_isSound_99 (by decide) rfl (fun c99 => by exact absurd c99 (cho_nn HW HJ hi1 hs j)) (fun _ => ?_)
                refine pw_iconst (pc2 := 103) (v := 1) dL_isSound_102 rfl (by decide) ?_
                refine pw_goto (tgt := 107) dL_isSound_103 (by decide) ?_
                refine pw_aload_n (pc2 := 108) dL_isSound_107 rfl rfl 7 rfl (by first | exact rf_ref _ | exact rf_opt _ | exact rf_nul) ?_
                refine pw_iload (pc2 := 110) dL_isSound_108 rfl 3 rfl ?_
                refine pw_iconst (pc2 := 111) (v := 0) dL_isSound_110 rfl (by decide) ?_
                refine pw_iconst (pc2 := 112) (v := 0) dL_isSound_111 rfl (by decide) ?_
                refine PW.widen (kc' := k1 * 69 + k2 * 11 + 515 + 3) (ks' := k1 * 414 + k2 * 66 + 3090 + 18) (by omega) (by omega) ?_
                refine pw_lookS (kc := k1 * 69 + k2 * 11 + 515) (ks := k1 * 414 + k2 * 66 + 3090) (pc2 := 115) (k_cho0S W92 hi1 (q := 0) (by omega) hs) cs_L_149 rfl dL_isSound_112 rfl (by omega) rfl (by first | decide | simp [cat_rf, Value.category]) (fun h93 W93 => ?_)
                refine pw_if_lt (tgt := 122) (pc2 := 118) dL_isSound_115 (by decide) rfl (fun c115 => by exact absurd c115 (cho_nn HW HJ hi1 hs 0)) (fun _ => ?_)
                refine pw_iconst (pc2 := 119) (v := 1) dL_isSound_118 rfl (by decide) ?_
                refine pw_goto (tgt := 123) dL_isSound_119 (by decide) ?_
                refine pw_icmp_eq (tgt := 128) (pc2 := 126) dL_isSound_123 (by decide) rfl (fun _ => ?_) (fun c123 => by exact absurd (by decide) c123)
                refine pw_iinc (pc2 := 131) (v := nI (j + 1)) (L2 := [(6, Value.int (nI (j + 1))), (5, Value.int 1), (7, Value.int (vG σ (g j))), (4, Value.int (nI i)), (3, Value.int (nI (npk σ))), (2, Value.int (nI (nrl σ))), (1, Value.ref (A 60 0)), (0, Value.ref (A 0 0))]) dL_isSound_128 rfl 2 rfl (by show nI _ + 1 = nI _; exact nI_1 _) (by decide) rfl ?_
                refine pw_goto (tgt := 20) dL_isSound_131 (by decide) ?_
                refine PW.sub (L2 := [(6, Value.int (nI (j + 1))), (5, Value.int 1), (4, Value.int (nI i)), (3, Value.int (nI (npk σ))), (2, Value.int (nI (nrl σ))), (1, Value.ref (A 60 0)), (0, Value.ref (A 0 0))]) [0, 1, 3, 4, 5, 6, 7] rfl ?_
                refine PW.widen (kc' := k1 * 69 + k2 * 11 + 513) (ks' := k1 * 414 + k2 * 66 + 3078) (by omega) (by omega) ?_
                exact ih2 (j + 1) h93 (by omega) W93
              · obtain ⟨x, hg, hx1, hx2⟩ := cho_x HW HJ hi1 hs c82
                refine pw_aload_n (pc2 := 86) dL_isSound_85 rfl rfl 7 rfl (by first | exact rf_ref _ | exact rf_opt _ | exact rf_nul) ?_
                refine pw_iload (pc2 := 88) dL_isSound_86 rfl 2 rfl ?_
                refine pw_iload (pc2 := 90) dL_isSound_88 rfl 1 rfl ?_
                refine pw_iconst (pc2 := 91) (v := 1) dL_isSound_90 rfl (by decide) ?_
                refine PW.widen (kc' := k1 * 69 + k2 * 11 + 516 + 2) (ks' := k1 * 414 + k2 * 66 + 3096 + 12) (by omega) (by omega) ?_
                refine pw_lookS (kc := k1 * 69 + k2 * 11 + 516) (ks := k1 * 414 + k2 * 66 + 3096) (pc2 := 94) (k_rel1x W92 HJ hg hx1 hx2) cs_L_152 rfl dL_isSound_91 rfl (by omega) rfl (by first | decide | simp [cat_rf, Value.category]) (fun h95 W95 => ?_)
                refine pw_if_lt (tgt := 126) (pc2 := 97) dL_isSound_94 (by decide) rfl (fun c94 => by exact absurd c94 (aSt_nn x)) (fun _ => ?_)
                refine pw_iload (pc2 := 99) dL_isSound_97 rfl 1 rfl ?_
                refine pw_if_lt (tgt := 106) (pc2 := 102) dL_isSound_99 (by decide) rfl (fun c99 => by exact absurd c99 (cho_nn HW HJ hi1 hs j)) (fun _ => ?_)
                refine pw_iconst (pc2 := 103) (v := 1) dL_isSound_102 rfl (by decide) ?_
                refine pw_goto (tgt := 107) dL_isSound_103 (by decide) ?_
                refine pw_aload_n (pc2 := 108) dL_isSound_107 rfl rfl 7 rfl (by first | exact rf_ref _ | exact rf_opt _ | exact rf_nul) ?_
                refine pw_iload (pc2 := 110) dL_isSound_108 rfl 3 rfl ?_
                refine pw_iconst (pc2 := 111) (v := 0) dL_isSound_110 rfl (by decide) ?_
                refine pw_iconst (pc2 := 112) (v := 0) dL_isSound_111 rfl (by decide) ?_
                refine PW.widen (kc' := k1 * 69 + k2 * 11 + 513 + 3) (ks' := k1 * 414 + k2 * 66 + 3078 + 18) (by omega) (by omega) ?_
                refine pw_lookS (kc := k1 * 69 + k2 * 11 + 513) (ks := k1 * 414 + k2 * 66 + 3078) (pc2 := 115) (k_cho0S W95 hi1 (q := 0) (by omega) hs) cs_L_149 rfl dL_isSound_112 rfl (by omega) rfl (by first | decide | simp [cat_rf, Value.category]) (fun h96 W96 => ?_)
                refine pw_if_lt (tgt := 122) (pc2 := 118) dL_isSound_115 (by decide) rfl (fun c115 => by exact absurd c115 (cho_nn HW HJ hi1 hs 0)) (fun _ => ?_)
                refine pw_iconst (pc2 := 119) (v := 1) dL_isSound_118 rfl (by decide) ?_
                refine pw_goto (tgt := 123) dL_isSound_119 (by decide) ?_
                refine pw_icmp_eq (tgt := 128) (pc2 := 126) dL_isSound_123 (by decide) rfl (fun _ => ?_) (fun c123 => by exact absurd (by decide) c123)
                refine pw_iinc (pc2 := 131) (v := nI (j + 1)) (L2 := [(6, Value.int (nI (j + 1))), (5, Value.int 1), (7, Value.int (vG σ (g j))), (4, Value.int (nI i)), (3, Value.int (nI (npk σ))), (2, Value.int (nI (nrl σ))), (1, Value.ref (A 60 0)), (0, Value.ref (A 0 0))]) dL_isSound_128 rfl 2 rfl (by show nI _ + 1 = nI _; exact nI_1 _) (by decide) rfl ?_
                refine pw_goto (tgt := 20) dL_isSound_131 (by decide) ?_
                refine PW.sub (L2 := [(6, Value.int (nI (j + 1))), (5, Value.int 1), (4, Value.int (nI i)), (3, Value.int (nI (npk σ))), (2, Value.int (nI (nrl σ))), (1, Value.ref (A 60 0)), (0, Value.ref (A 0 0))]) [0, 1, 3, 4, 5, 6, 7] rfl ?_
                refine PW.widen (kc' := k1 * 69 + k2 * 11 + 513) (ks' := k1 * 414 + k2 * 66 + 3078) (by omega) (by omega) ?_
                exact ih2 (j + 1) h96 (by omega) W96
            · refine pw_iload (pc2 := 77) dL_isSound_75 rfl 1 rfl ?_
              refine pw_if_gt (tgt := 126) (pc2 := 80) dL_isSound_77 (by decide) rfl (fun c77 => by exact absurd c77 (cho_hi HW HJ hi1 hs c72 hi2)) (fun _ => ?_)
              refine pw_iload (pc2 := 82) dL_isSound_80 rfl 1 rfl ?_
              refine pw_if_le (tgt := 97) (pc2 := 85) dL_isSound_82 (by decide) rfl (fun c82 => ?_) (fun c82 => ?_)
              · refine pw_iload (pc2 := 99) dL_isSound_97 rfl 1 rfl ?_
                refine pw_if_lt (tgt := 106) (pc2 := 102) dL_isSound_99 (by decide) rfl (fun c99 => by exact absurd c99 (cho_nn HW HJ hi1 hs j)) (fun _ => ?_)
                refine pw_iconst (pc2 := 103) (v := 1) dL_isSound_102 rfl (by decide) ?_
                refine pw_goto (tgt := 107) dL_isSound_103 (by decide) ?_
                refine pw_aload_n (pc2 := 108) dL_isSound_107 rfl rfl 7 rfl (by first | exact rf_ref _ | exact rf_opt _ | exact rf_nul) ?_
                refine pw_iload (pc2 := 110) dL_isSound_108 rfl 3 rfl ?_
                refine pw_iconst (pc2 := 111) (v := 0) dL_isSound_110 rfl (by decide) ?_
                refine pw_iconst (pc2 := 112) (v := 0) dL_isSound_111 rfl (by decide) ?_
                refine PW.widen (kc' := k1 * 69 + k2 * 11 + 515 + 3) (ks' := k1 * 414 + k2 * 66 + 3090 + 18) (by omega) (by omega) ?_
                refine pw_lookS (kc := k1 * 69 + k2 * 11 + 515) (ks := k1 * 414 + k2 * 66 + 3090) (pc2 := 115) (k_cho0S W92 hi1 (q := 0) (by omega) hs) cs_L_149 rfl dL_isSound_112 rfl (by omega) rfl (by first | decide | simp [cat_rf, Value.category]) (fun h98 W98 => ?_)
                refine pw_if_lt (tgt := 122) (pc2 := 118) dL_isSound_115 (by decide) rfl (fun c115 => by exact absurd c115 (cho_nn HW HJ hi1 hs 0)) (fun _ => ?_)
                refine pw_iconst (pc2 := 119) (v := 1) dL_isSound_118 rfl (by decide) ?_
                refine pw_goto (tgt := 123) dL_isSound_119 (by decide) ?_
                refine pw_icmp_eq (tgt := 128) (pc2 := 126) dL_isSound_123 (by decide) rfl (fun _ => ?_) (fun c123 => by exact absurd (by decide) c123)
                refine pw_iinc (pc2 := 131) (v := nI (j + 1)) (L2 := [(6, Value.int (nI (j + 1))), (5, Value.int 1), (7, Value.int (vG σ (g j))), (4, Value.int (nI i)), (3, Value.int (nI (npk σ))), (2, Value.int (nI (nrl σ))), (1, Value.ref (A 60 0)), (0, Value.ref (A 0 0))]) dL_isSound_128 rfl 2 rfl (by show nI _ + 1 = nI _; exact nI_1 _) (by decide) rfl ?_
                refine pw_goto (tgt := 20) dL_isSound_131 (by decide) ?_
                refine PW.sub (L2 := [(6, Value.int (nI (j + 1))), (5, Value.int 1), (4, Value.int (nI i)), (3, Value.int (nI (npk σ))), (2, Value.int (nI (nrl σ))), (1, Value.ref (A 60 0)), (0, Value.ref (A 0 0))]) [0, 1, 3, 4, 5, 6, 7] rfl ?_
                refine PW.widen (kc' := k1 * 69 + k2 * 11 + 513) (ks' := k1 * 414 + k2 * 66 + 3078) (by omega) (by omega) ?_
                exact ih2 (j + 1) h98 (by omega) W98
              · obtain ⟨x, hg, hx1, hx2⟩ := cho_x HW HJ hi1 hs c82
                refine pw_aload_n (pc2 := 86) dL_isSound_85 rfl rfl 7 rfl (by first | exact rf_ref _ | exact rf_opt _ | exact rf_nul) ?_
                refine pw_iload (pc2 := 88) dL_isSound_86 rfl 2 rfl ?_
                refine pw_iload (pc2 := 90) dL_isSound_88 rfl 1 rfl ?_
                refine pw_iconst (pc2 := 91) (v := 1) dL_isSound_90 rfl (by decide) ?_
                refine PW.widen (kc' := k1 * 69 + k2 * 11 + 516 + 2) (ks' := k1 * 414 + k2 * 66 + 3096 + 12) (by omega) (by omega) ?_
                refine pw_lookS (kc := k1 * 69 + k2 * 11 + 516) (ks := k1 * 414 + k2 * 66 + 3096) (pc2 := 94) (k_rel1x W92 HJ hg hx1 hx2) cs_L_152 rfl dL_isSound_91 rfl (by omega) rfl (by first | decide | simp [cat_rf, Value.category]) (fun h100 W100 => ?_)
                refine pw_if_lt (tgt := 126) (pc2 := 97) dL_isSound_94 (by decide) rfl (fun c94 => by exact absurd c94 (aSt_nn x)) (fun _ => ?_)
                refine pw_iload (pc2 := 99) dL_isSound_97 rfl 1 rfl ?_
                refine pw_if_lt (tgt := 106) (pc2 := 102) dL_isSound_99 (by decide) rfl (fun c99 => by exact absurd c99 (cho_nn HW HJ hi1 hs j)) (fun _ => ?_)
                refine pw_iconst (pc2 := 103) (v := 1) dL_isSound_102 rfl (by decide) ?_
                refine pw_goto (tgt := 107) dL_isSound_103 (by decide) ?_
                refine pw_aload_n (pc2 := 108) dL_isSound_107 rfl rfl 7 rfl (by first | exact rf_ref _ | exact rf_opt _ | exact rf_nul) ?_
                refine pw_iload (pc2 := 110) dL_isSound_108 rfl 3 rfl ?_
                refine pw_iconst (pc2 := 111) (v := 0) dL_isSound_110 rfl (by decide) ?_
                refine pw_iconst (pc2 := 112) (v := 0) dL_isSound_111 rfl (by decide) ?_
                refine PW.widen (kc' := k1 * 69 + k2 * 11 + 513 + 3) (ks' := k1 * 414 + k2 * 66 + 3078 + 18) (by omega) (by omega) ?_
                refine pw_lookS (kc := k1 * 69 + k2 * 11 + 513) (ks := k1 * 414 + k2 * 66 + 3078) (pc2 := 115) (k_cho0S W100 hi1 (q := 0) (by omega) hs) cs_L_149 rfl dL_isSound_112 rfl (by omega) rfl (by first | decide | simp [cat_rf, Value.category]) (fun h101 W101 => ?_)
                refine pw_if_lt (tgt := 122) (pc2 := 118) dL_isSound_115 (by decide) rfl (fun c115 => by exact absurd c115 (cho_nn HW HJ hi1 hs 0)) (fun _ => ?_)
                refine pw_iconst (pc2 := 119) (v := 1) dL_isSound_118 rfl (by decide) ?_
                refine pw_goto (tgt := 123) dL_isSound_119 (by decide) ?_
                refine pw_icmp_eq (tgt := 128) (pc2 := 126) dL_isSound_123 (by decide) rfl (fun _ => ?_) (fun c123 => by exact absurd (by decide) c123)
                refine pw_iinc (pc2 := 131) (v := nI (j + 1)) (L2 := [(6, Value.int (nI (j + 1))), (5, Value.int 1), (7, Value.int (vG σ (g j))), (4, Value.int (nI i)), (3, Value.int (nI (npk σ))), (2, Value.int (nI (nrl σ))), (1, Value.ref (A 60 0)), (0, Value.ref (A 0 0))]) dL_isSound_128 rfl 2 rfl (by show nI _ + 1 = nI _; exact nI_1 _) (by decide) rfl ?_
                refine pw_goto (tgt := 20) dL_isSound_131 (by decide) ?_
                refine PW.sub (L2 := [(6, Value.int (nI (j + 1))), (5, Value.int 1), (4, Value.int (nI i)), (3, Value.int (nI (npk σ))), (2, Value.int (nI (nrl σ))), (1, Value.ref (A 60 0)), (0, Value.ref (A 0 0))]) [0, 1, 3, 4, 5, 6, 7] rfl ?_
                refine PW.widen (kc' := k1 * 69 + k2 * 11 + 513) (ks' := k1 * 414 + k2 * 66 + 3078) (by omega) (by omega) ?_
                exact ih2 (j + 1) h101 (by omega) W101
        refine PW.sub (L2 := [(6, Value.int 0), (5, Value.int 1), (4, Value.int (nI i)), (3, Value.int (nI (npk σ))), (2, Value.int (nI (nrl σ))), (1, Value.ref (A 60 0)), (0, Value.ref (A 0 0))]) [0, 1, 2, 3, 4, 5, 6] rfl ?_
        refine PW.widen (kc' := k1 * 69 + (npk σ - 0) * 11 + 513) (ks' := k1 * 414 + (npk σ - 0) * 66 + 3078) (by omega) (by omega) ?_
        exact lp2 (npk σ - 0) 0 h1 (by omega) W1
  refine PW.sub (L2 := [(4, Value.int 0), (3, Value.int (nI (npk σ))), (2, Value.int (nI (nrl σ))), (1, Value.ref (A 60 0)), (0, Value.ref (A 0 0))]) [0, 1, 4, 3, 2] rfl ?_
  refine PW.widen (kc' := (npk σ - 0) * 69 + 510) (ks' := (npk σ - 0) * 414 + 3060) (by omega) (by omega) ?_
  exact lp1 (npk σ - 0) 0 h1 (by omega) W1
