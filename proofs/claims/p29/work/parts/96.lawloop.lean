/-! the law's loop -/
set_option maxHeartbeats 8000000 in
set_option maxRecDepth 100000 in
theorem law_loop {G : hG} {sc Ln d c : Nat} {xs : Nat → Int32} (hd : 20 ≤ d) (hLn : Ln ≤ 260) (hc : c ≤ 56) : ∀ (k m : Nat) (h : hp) (A : aT) (σ : sT) (ofr : Nat → Nat), m + k = c → WS G h A σ → J σ ofr (9999 * m) → JD σ ofr (nrl σ) → PW G ML_law d (psX sc Ln xs) EL (k * 1400 + 1500) (k * 8400 + 9000) 33 [(0, Value.ref sc), (1, Value.ref (A 0 0)), (2, Value.ref (A 60 0)), (3, Value.int (nI (nrl σ))), (4, Value.int (nI c)), (5, Value.int (nI m))] [] h := by
  intro k
  induction k with
  | zero =>
    intro m h A σ ofr hk HW HJ HD
    obtain rfl : m = c := by omega
    refine pw_iload (pc2 := 35) dL_law_33 rfl 5 rfl ?_
    refine pw_iload (pc2 := 37) dL_law_35 rfl 4 rfl ?_
    refine pw_icmp_ge (tgt := 773) (pc2 := 40) dL_law_37 (by decide) rfl (fun _ => ?_) (fun c37 => by exact absurd ((nI_leI (a := m) (b := m) (by omega) (by omega)).mpr (by omega)) c37)
    refine PW.sub (L2 := [(0, Value.ref sc), (1, Value.ref (A 0 0)), (2, Value.ref (A 60 0)), (3, Value.int (nI (nrl σ)))]) [0, 1, 2, 3] rfl ?_
    refine PW.widen (kc' := 1500) (ks' := 9000) (by omega) (by omega) ?_
    exact law_end hd HW HJ HD
  | succ k ih =>
    intro m h A σ ofr hk HW HJ HD
    refine pw_iload (pc2 := 35) dL_law_33 rfl 5 rfl ?_
    refine pw_iload (pc2 := 37) dL_law_35 rfl 4 rfl ?_
    refine pw_icmp_ge (tgt := 773) (pc2 := 40) dL_law_37 (by decide) rfl (fun c37 => by exact absurd c37 (fun z => by have := (nI_leI (a := c) (b := m) (by omega) (by omega)).mp z; omega)) (fun _ => ?_)
    refine PW.sub (L2 := [(0, Value.ref sc), (1, Value.ref (A 0 0)), (2, Value.ref (A 60 0)), (3, Value.int (nI (nrl σ))), (4, Value.int (nI c)), (5, Value.int (nI m))]) [0, 1, 2, 3, 4, 5] rfl ?_
    refine PW.widen (kc' := k * 1400 + 1500 + 1400) (ks' := k * 8400 + 9000 + 8400) (by omega) (by omega) ?_
    refine lw_body hd hLn HW HJ HD (by omega) (by omega) (fun h2 A' σ' ofr' e0 e60 W' J' D' => ?_)
    exact ih (m + 1) h2 A' σ' ofr' (by omega) W' (J'.mono (by omega)) D'
