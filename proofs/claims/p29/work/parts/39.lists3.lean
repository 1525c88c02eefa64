/-! lists: add; filling; counting bits -/
theorem PMet.up {G : hG} {M : hMI} {k k2 mc ms : Nat} {As : List Value} {h : hp} {Q : Option Value → hp → Prop} {X : String → hp → Prop} (H : PMet G M k mc ms As h Q X) (hk : k ≤ k2) : PMet G M k2 mc ms As h Q X := fun l d sz hl hd => H l d sz hl (Nat.le_trans hk hd)
/-- there is room for one more, or it can be made -/
def lOK (G : hG) (h : hp) (ed n cap : Nat) : Prop := n < cap ∨ (n = 0 ∧ cap = 0 ∧ ed = G.2.2 ∧ h G.2.2 = some hE0) ∨ (cap = n ∧ (n = 10 ∨ n = 15))
theorem c_ladd (G : hG) (h : hp) {l ed cap n q : Nat} {mc : Int32} {f : Nat → Nat} {g : Nat → Option Nat} (hl : isLx h l ed cap n mc f g) {cj N2 : Nat} {C2 : String} {T2 : u_T} {gs : List Value} (hcl : vwCl[cj]? = some (C2, T2, N2)) (hca : Cond.castable C2 "java/lang/Object" ∈ nws) (hq : h q = some (.inr (cj, gs))) (hc2 : cj ≠ 2) (hel : ∀ i : Nat, i < n → ∃ gs, h (f i) = some (.inr (cj, gs))) (hok : lOK G h ed n cap) :
    PMet G MJx4a65c_add_72be8 5 1 40 [.ref l, .ref q, .ref ed, .int (nI n)] h (QA3 G h l ed cap n q mc f) noX := by
  have hql : q ≠ l := fun e => by
    rw [e, hl.1] at hq
    cases hq
    exact hc2 rfl
  rcases hok with hlt | ⟨h0, hc0, he0, hd0⟩ | ⟨hcn, hn⟩
  · exact c_ladd3a G h hl hcl hca hq hlt
  · subst h0
    subst hc0
    subst he0
    exact c_ladd3b G h hl hcl hca hq rfl hql (c_lgrow G h hl.1 ((c_grow0 G h hl.1 hd0).up (by decide)))
  · subst hcn
    rcases hn with rfl | rfl
    · exact c_ladd3b G h hl hcl hca hq rfl hql (c_lgrow G h hl.1 (c_grow10 G h hl hcl hca hel))
    · exact c_ladd3b G h hl hcl hca hq rfl hql (c_lgrow G h hl.1 (c_grow15 G h hl hcl hca hel))
theorem laddE_end {G : hG} {h h1 : hp} {l ed cap n q : Nat} {mc : Int32} {f : Nat → Nat} {g : Nat → Option Nat} (hl : isLx h l ed cap n mc f g) (eh1 : h1 = va_up h l (some (oB 2 [.int (mc + 1), .ref ed, .int (nI n)]))) (hl1 : isLx h1 l ed cap n (mc + 1) f g) {e2 cap2 : Nat} {g2 : Nat → Option Nat} (hk : eOK G h1 ed n cap e2 cap2) (hc1 : n < cap2) (hc2 : cap2 < 1000) (hc3 : ∀ i, i < n → g2 i = some (f i)) :
    QAdd G h l ed cap n q mc f (some (.int 1)) (va_up (va_up h1 e2 (some (aR tObj cap2 (va_up g2 n (some q))))) l (some (oB 2 [.int (mc + 1), .ref e2, .int (nI (n + 1))]))) := by
  have hle : e2 ≠ l := by
    rcases hk with ⟨rfl, -, -⟩ | ⟨⟨h2, -⟩, -⟩
    · exact ne_ao hl1.2.1 hl1.1
    · exact (ne_nw hl1.1 h2).symm
  refine ⟨rfl, e2, cap2, va_up g2 n (some q), ?_, ⟨va_up_self _ _ _, ?_, hc1, hc2, fun i hi => ?_⟩, fun x hx => ?_⟩
  · rcases hk with h2 | ⟨⟨h2, h3⟩, h4⟩
    · exact Or.inl h2
    · refine Or.inr ⟨⟨?_, h3⟩, h4⟩
      rw [eh1, va_up_ne _ _ hle] at h2
      exact h2
  · rw [va_up_ne _ _ hle, va_up_self]
  · by_cases e : i = n
    · subst e
      rw [va_up_self]
      unfold upN
      rw [if_pos rfl]
    · rw [va_up_ne _ _ e, hc3 i (by omega)]
      unfold upN
      rw [if_neg e]
  · simp only [List.mem_cons, List.not_mem_nil, or_false, not_or] at hx
    rw [va_up_ne _ _ hx.1, va_up_ne _ _ hx.2, eh1, va_up_ne _ _ hx.1]
set_option maxHeartbeats 4000000 in
set_option maxRecDepth 100000 in
theorem c_laddE (G : hG) (h : hp) {l ed cap n q : Nat} {mc : Int32} {f : Nat → Nat} {g : Nat → Option Nat} (hl : isLx h l ed cap n mc f g) {cj N2 : Nat} {C2 : String} {T2 : u_T} {gs : List Value} (hcl : vwCl[cj]? = some (C2, T2, N2)) (hca : Cond.castable C2 "java/lang/Object" ∈ nws) (hq : h q = some (.inr (cj, gs))) (hc2 : cj ≠ 2) (hel : ∀ i : Nat, i < n → ∃ gs, h (f i) = some (.inr (cj, gs))) (hok : lOK G h ed n cap) : PMet G MJx4a65c_add_9ea2d 6 1 40 [.ref l, .ref q] h (QAdd G h l ed cap n q mc f) noX := by
  refine PMet.of (by decide +kernel) (Nat.le_of_ble_eq_true rfl) (fun d hd => ?_)
  refine PW.sub (L2 := [(0, Value.ref l), (1, Value.ref q)]) [0, 1] rfl ?_
  refine pw_aload_n (pc2 := 1) dJx4a65c_add_9ea2d_0 rfl rfl 0 rfl (by first | exact rf_ref _ | exact rf_opt _ | exact rf_nul) ?_
  refine pw_dup (pc2 := 2) dJx4a65c_add_9ea2d_1 rfl (by first | rfl | exact cat_rf _) ?_
  refine pw_getS (pc2 := 5) kJx4a65c (k := 0) (by decide) sf_mod fl_Jx4a65c_63 hl.1 rfl dJx4a65c_add_9ea2d_2 rfl ?_
  refine pw_iconst (pc2 := 6) (v := 1) dJx4a65c_add_9ea2d_5 rfl (by decide) ?_
  refine pw_iadd (pc2 := 7) dJx4a65c_add_9ea2d_6 rfl ?_
  refine pw_putS (pc2 := 10) kJx4a65c (k := 0) (by decide) sf_mod rfl fl_Jx4a65c_63 hl.1 (by first | decide | simp) (by first | rfl | exact nar_rf _ _) (by first | rfl | exact fit_rf _ _) dJx4a65c_add_9ea2d_7 rfl ?_
  obtain ⟨h1, eh1⟩ : ∃ z : hp, z = va_up h l (some (oB 2 [.int (mc + 1), .ref ed, .int (nI n)])) := ⟨_, rfl⟩
  refine PW.heap (h' := h1) eh1.symm ?_
  have hl1 : isLx h1 l ed cap n (mc + 1) f g := by rw [eh1]; exact ⟨va_up_self _ _ _, (va_up_ne _ _ (ne_ao hl.2.1 hl.1)).trans hl.2.1, hl.2.2.1, hl.2.2.2.1, hl.2.2.2.2⟩
  have sm1 : ∀ x, x ≠ l → h1 x = h x := fun x hx => by rw [eh1]; exact va_up_ne _ _ hx
  have kp : ∀ (x : Nat) (gs : List Value), h x = some (.inr (cj, gs)) → h1 x = some (.inr (cj, gs)) := fun x gs hx => (sm1 x (ne_oo hx hl.1 hc2)).trans hx
  have ok1 : lOK G h1 ed n cap := hok.imp id (Or.imp (fun z => ⟨z.1, z.2.1, z.2.2.1, (sm1 _ (ne_ao z.2.2.2 hl.1)).trans z.2.2.2⟩) id)
  refine pw_aload_n (pc2 := 11) dJx4a65c_add_9ea2d_10 rfl rfl 0 rfl (by first | exact rf_ref _ | exact rf_opt _ | exact rf_nul) ?_
  refine pw_aload_n (pc2 := 12) dJx4a65c_add_9ea2d_11 rfl rfl 1 rfl (by first | exact rf_ref _ | exact rf_opt _ | exact rf_nul) ?_
  refine pw_aload_n (pc2 := 13) dJx4a65c_add_9ea2d_12 rfl rfl 0 rfl (by first | exact rf_ref _ | exact rf_opt _ | exact rf_nul) ?_
  refine pw_get (pc2 := 16) kJx4a65c (k := 1) (by decide) rfl fl_Jx4a65c_9 hl1.1 rfl dJx4a65c_add_9ea2d_13 rfl ?_
  refine pw_aload_n (pc2 := 17) dJx4a65c_add_9ea2d_16 rfl rfl 0 rfl (by first | exact rf_ref _ | exact rf_opt _ | exact rf_nul) ?_
  refine pw_get (pc2 := 20) kJx4a65c (k := 2) (by decide) rfl fl_Jx4a65c_48 hl1.1 rfl dJx4a65c_add_9ea2d_17 rfl ?_
  refine pw_callV (pc2 := 23) (c_ladd G h1 hl1 hcl hca (kp _ _ hq) hc2 (fun i hi => (hel i hi).imp (fun gs z => kp _ _ z)) ok1) cs_Jx4a65c_131 rfl rfl hl1.1 dJx4a65c_add_9ea2d_20 rfl (by omega) rfl (by first | decide | simp [cat_rf, Value.category]) (fun r9 h9 q9 => ?_) (fun Y h9 q9 => q9.elim)
  obtain ⟨rfl, e2, cap2, g2, hk, rfl, hc1, hc2', hc3⟩ := q9
  refine pw_iconst (pc2 := 24) (v := 1) dJx4a65c_add_9ea2d_23 rfl (by decide) ?_
  refine pw_iret dJx4a65c_add_9ea2d_24 rfl (by first | rfl | assumption | simp [narrow]) ?_
  exact laddE_end hl eh1 hl1 hk hc1 hc2' hc3
def flI (f : Nat → Int32) (k : Nat) (v : Int32) : Nat → Int32 := fun j => if j < k then v else f j
theorem flI_s (f : Nat → Int32) (k : Nat) (v : Int32) : upd (flI f k v) k v = flI f (k + 1) v := by
  funext j
  unfold upd flI
  by_cases h : j = k
  · subst h; simp
  · by_cases h2 : j < k
    · rw [if_neg h, if_pos h2, if_pos (by omega)]
    · rw [if_neg h, if_neg h2, if_neg (by omega)]
theorem flI_0 (f : Nat → Int32) (v : Int32) : flI f 0 v = f := by
  funext j
  simp [flI]
set_option maxHeartbeats 4000000 in
set_option maxRecDepth 100000 in
theorem c_fill (G : hG) (h : hp) {a n : Nat} {f : Nat → Int32} (ha : h a = some (aI n f)) (hn : n < 1000) (v : Int32) : PMet G MJ7_fill_53178 0 0 0 [.ref a, .int v] h (det none (va_up h a (some (aI n (flI f n v))))) noX := by
  refine PMet.of (by decide +kernel) (Nat.le_of_ble_eq_true rfl) (fun d hd => ?_)
  refine PW.sub (L2 := [(0, Value.ref a), (1, Value.int v)]) [0, 1] rfl ?_
  refine pw_iconst (pc2 := 1) (v := 0) dJ7_fill_53178_0 rfl (by decide) ?_
  refine pw_istore_n (pc2 := 2) (L2 := [(2, Value.int 0), (0, Value.ref a), (1, Value.int v)]) dJ7_fill_53178_1 rfl rfl (by decide) rfl ?_
  refine pw_aload_n (pc2 := 3) dJ7_fill_53178_2 rfl rfl 1 rfl (by first | exact rf_ref _ | exact rf_opt _ | exact rf_nul) ?_
  refine pw_alen (pc2 := 4) 0 rfl ha rfl dJ7_fill_53178_3 rfl ?_
  refine pw_topi (fun v1 ev1 => ?_)
  refine pw_istore_n (pc2 := 5) (L2 := [(3, Value.int v1), (2, Value.int 0), (0, Value.ref a), (1, Value.int v)]) dJ7_fill_53178_4 rfl rfl (by decide) rfl ?_
  obtain rfl : v1 = nI n := ev1
  have loop : ∀ (k i : Nat) (_u : Unit), i + k = n → PW G MJ7_fill_53178 d noA (E0 G (det none (va_up h a (some (aI n (flI f n v))))) noX) 0 0 5 [(0, Value.ref a), (1, Value.int v), (2, Value.int (nI i)), (3, Value.int (nI n))] [] (va_up h a (some (aI n (flI f i v)))) := by
    intro k
    induction k with
    | zero =>
      intro i _ hik
      have hi9 : i = n := by omega
      refine pw_iload_n (pc2 := 6) dJ7_fill_53178_5 rfl rfl 2 rfl ?_
      refine pw_iload_n (pc2 := 7) dJ7_fill_53178_6 rfl rfl 3 rfl ?_
      refine pw_icmp_ge (tgt := 20) (pc2 := 10) dJ7_fill_53178_7 (by decide) rfl (fun _ => ?_) (fun c7 => by exact absurd (by first | (rw [hi9]; exact Int32.le_refl _) | exact fun q => absurd ((nI_leI (a := n) (b := i) (by omega) (by omega)).mp q) (by omega)) c7)
      refine pw_vret dJ7_fill_53178_20 rfl ?_
      exact ⟨rfl, by rw [hi9]⟩
    | succ k ih =>
      intro i _ hik
      have hi9 : i < n := by omega
      refine pw_iload_n (pc2 := 6) dJ7_fill_53178_5 rfl rfl 2 rfl ?_
      refine pw_iload_n (pc2 := 7) dJ7_fill_53178_6 rfl rfl 3 rfl ?_
      refine pw_icmp_ge (tgt := 20) (pc2 := 10) dJ7_fill_53178_7 (by decide) rfl (fun c7 => by exact absurd c7 (by first | (rw [hi9]; exact Int32.le_refl _) | exact fun q => absurd ((nI_leI (a := n) (b := i) (by omega) (by omega)).mp q) (by omega))) (fun _ => ?_)
      refine pw_aload_n (pc2 := 11) dJ7_fill_53178_10 rfl rfl 0 rfl (by first | exact rf_ref _ | exact rf_opt _ | exact rf_nul) ?_
      refine pw_iload_n (pc2 := 12) dJ7_fill_53178_11 rfl rfl 2 rfl ?_
      refine pw_iload_n (pc2 := 13) dJ7_fill_53178_12 rfl rfl 1 rfl ?_
      refine pw_iastN (pc2 := 14) (va_up_self _ _ _) (i := i) (by first | assumption | omega) (by omega) dJ7_fill_53178_13 rfl ?_
      refine PW.heap (h' := va_up h a (some (aI n (flI f (i + 1) v)))) (by rw [up_up, flI_s]) ?_
      refine pw_iinc (pc2 := 17) (v := nI (i + 1)) (L2 := [(2, Value.int (nI (i + 1))), (0, Value.ref a), (1, Value.int v), (3, Value.int (nI n))]) dJ7_fill_53178_14 rfl 2 rfl (by show nI _ + 1 = nI _; exact nI_1 _) (by decide) rfl ?_
      refine pw_goto (tgt := 5) dJ7_fill_53178_17 (by decide) ?_
      refine PW.sub (L2 := [(0, Value.ref a), (1, Value.int v), (2, Value.int (nI (i + 1))), (3, Value.int (nI n))]) [1, 2, 0, 3] rfl ?_
      exact ih (i + 1) () (by omega)
  refine PW.sub (L2 := [(0, Value.ref a), (1, Value.int v), (2, Value.int (nI 0)), (3, Value.int (nI n))]) [2, 3, 1, 0] rfl ?_
  refine PW.heap (h' := va_up h a (some (aI n (flI f 0 v)))) (by rw [flI_0]; exact (up_id ha).symm) ?_
  exact loop n 0 () (by omega)
