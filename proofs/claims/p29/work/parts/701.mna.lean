/-! a row of rows; the new cells of a constructor by tags -/
noncomputable def upR (h : hp) (q : Nat) (eo : hE) (N : Nat) (r : Nat → Nat) (ei : hE) : hp := fun x => if x = q then some eo else dit (∃ i, i < N ∧ r i = x) (some ei) (h x)
theorem upR_q {h : hp} {q N : Nat} {r : Nat → Nat} {eo ei : hE} : upR h q eo N r ei q = some eo := if_pos rfl
theorem upR_r {h : hp} {q N i : Nat} {r : Nat → Nat} {eo ei : hE} (hi : i < N) (hn : r i ≠ q) : upR h q eo N r ei (r i) = some ei := (if_neg hn).trans (dit_t ⟨i, hi, rfl⟩)
theorem upR_o {h : hp} {q N x : Nat} {r : Nat → Nat} {eo ei : hE} (h1 : x ≠ q) (h2 : ∀ i, i < N → r i ≠ x) : upR h q eo N r ei x = h x := (if_neg h1).trans (dit_f (fun ⟨i, a, b⟩ => h2 i a b))
theorem mna_memP {α : Type} {P Q : List α} {e x : α} (hx : x ∈ P) : ∃ k, k < P.length ∧ ((P ++ [e]) ++ Q)[k]? = some x := by
  obtain ⟨k, hk⟩ := List.mem_iff_getElem?.mp hx
  have hl : k < P.length := (List.getElem?_eq_some_iff.mp hk).1
  refine ⟨k, hl, ?_⟩
  rw [List.getElem?_append_left (by rw [List.length_append]; omega), List.getElem?_append_left hl]
  exact hk
theorem mna_memE {α : Type} {P Q : List α} {e : α} : ((P ++ [e]) ++ Q)[P.length]? = some e := by
  rw [List.getElem?_append_left (by rw [List.length_append]; exact Nat.lt_succ_self _), List.getElem?_append_right (Nat.le_refl _), Nat.sub_self]
  rfl
theorem mna_memQ {α : Type} {P Q : List α} {e x : α} (hx : x ∈ Q) : ∃ k, P.length < k ∧ ((P ++ [e]) ++ Q)[k]? = some x := by
  obtain ⟨k, hk⟩ := List.mem_iff_getElem?.mp hx
  refine ⟨P.length + 1 + k, by omega, ?_⟩
  have hlen : (P ++ [e]).length = P.length + 1 := by rw [List.length_append]; rfl
  rw [List.getElem?_append_right (by omega), hlen, Nat.add_sub_cancel_left]
  exact hk
theorem RQ.mna {G : hG} {A : Nat → Prop} {h : hp} {H : Heap} (hR : RQ G A h H) (hnd : ¬ A G.2.2) : ∃ ws : va_W, va_P G.1 vwCl ws H ∧ va_D A ws ∧
    ∀ (q N : Nat) (r : Nat → Nat) (eo ei : hE) (fx : Nat → va_E) (H1 : Heap), va_P G.1 vwCl ((ws ++ [(q, hc G eo)]) ++ va_pl ([] ++ (List.range N).map r) (vr_up fx ((List.range N).map r) (hc G ei))) H1 → va_D A ((ws ++ [(q, hc G eo)]) ++ va_pl ([] ++ (List.range N).map r) (vr_up fx ((List.range N).map r) (hc G ei))) → cD G H1 →
      h q = none ∧ q ≠ G.2.2 ∧ (∀ i, i < N → h (r i) = none ∧ r i ≠ G.2.2 ∧ r i ≠ q) ∧ RQ G A (upR h q eo N r ei) H1 := by
  obtain ⟨⟨L, hL, hP, hD⟩, h0, hz⟩ := hR
  refine ⟨va_pl L (hf G h), hP, hD, fun q N r eo ei fx H1 p1 d1 z1 => ?_⟩
  rw [List.nil_append] at p1 d1
  have mL : ∀ a, a ∈ L → (a, hf G h a) ∈ va_pl L (hf G h) := fun a ha => List.mem_map.mpr ⟨a, ha, rfl⟩
  have mR : ∀ i, i < N → (r i, vr_up fx ((List.range N).map r) (hc G ei) (r i)) ∈ va_pl ((List.range N).map r) (vr_up fx ((List.range N).map r) (hc G ei)) := fun i hi => List.mem_map.mpr ⟨r i, List.mem_map.mpr ⟨i, List.mem_range.mpr hi, rfl⟩, rfl⟩
  have hqL : q ∉ L := fun hq => by
    obtain ⟨k, hk1, hk2⟩ := mna_memP (e := (q, hc G eo)) (Q := va_pl ((List.range N).map r) (vr_up fx ((List.range N).map r) (hc G ei))) (mL q hq)
    have := d1.1 k _ _ _ hk2 mna_memE rfl
    omega
  have hrL : ∀ i, i < N → r i ∉ L := fun i hi hq => by
    obtain ⟨k, hk1, hk2⟩ := mna_memP (e := (q, hc G eo)) (Q := va_pl ((List.range N).map r) (vr_up fx ((List.range N).map r) (hc G ei))) (mL _ hq)
    obtain ⟨k2, hk3, hk4⟩ := mna_memQ (P := va_pl L (hf G h)) (e := (q, hc G eo)) (mR i hi)
    have := d1.1 k k2 _ _ hk2 hk4 rfl
    omega
  have hrq : ∀ i, i < N → r i ≠ q := fun i hi hq => by
    obtain ⟨k2, hk3, hk4⟩ := mna_memQ (P := va_pl L (hf G h)) (e := (q, hc G eo)) (mR i hi)
    have := d1.1 _ k2 _ _ mna_memE hk4 hq.symm
    omega
  have hAq : A q := d1.2 _ _ mna_memE
  have hAr : ∀ i, i < N → A (r i) := fun i hi => by
    obtain ⟨k2, -, hk4⟩ := mna_memQ (P := va_pl L (hf G h)) (e := (q, hc G eo)) (mR i hi)
    exact d1.2 _ _ hk4
  have hqd : q ≠ G.2.2 := fun x => hnd (x ▸ hAq)
  have hrd : ∀ i, i < N → r i ≠ G.2.2 := fun i hi x => hnd (x ▸ hAr i hi)
  have hnn : ∀ a, a ∉ L → a ≠ G.2.2 → h a = none := fun a ha hne => by
    cases hh : h a with
    | none => rfl
    | some x => exact absurd ((hL a).mpr ⟨(by rw [hh]; exact fun z => by cases z), hne⟩) ha
  have hoL : ∀ a, a ∈ L → upR h q eo N r ei a = h a := fun a ha => upR_o (fun e => hqL (e ▸ ha)) (fun i hi e => hrL i hi (e ▸ ha))
  have eW : (va_pl L (hf G h) ++ [(q, hc G eo)]) ++ va_pl ((List.range N).map r) (vr_up fx ((List.range N).map r) (hc G ei)) = va_pl ((L ++ [q]) ++ (List.range N).map r) (hf G (upR h q eo N r ei)) := by
    unfold va_pl
    rw [List.map_append, List.map_append]
    congr 1
    · congr 1
      · refine List.map_congr_left (fun a ha => ?_)
        show (a, hf G h a) = (a, hf G (upR h q eo N r ei) a)
        unfold hf
        rw [hoL a ha]
      · show [(q, hc G eo)] = [(q, hf G (upR h q eo N r ei) q)]
        rw [hf_at (e := eo) upR_q]
    · refine List.map_congr_left (fun a ha => ?_)
      obtain ⟨i, hi, rfl⟩ := List.mem_map.mp ha
      have hi' := List.mem_range.mp hi
      show (r i, vr_up fx ((List.range N).map r) (hc G ei) (r i)) = (r i, hf G (upR h q eo N r ei) (r i))
      rw [hf_at (upR_r hi' (hrq i hi')), show vr_up fx ((List.range N).map r) (hc G ei) (r i) = hc G ei from if_pos ha]
  rw [eW] at p1 d1
  refine ⟨hnn q hqL hqd, hqd, fun i hi => ⟨hnn _ (hrL i hi) (hrd i hi), hrd i hi, hrq i hi⟩, ⟨(L ++ [q]) ++ (List.range N).map r, fun b => ?_, p1, d1⟩, ?_, z1⟩
  · rw [List.mem_append, List.mem_append]
    constructor
    · rintro ((hb | hb) | hb)
      · rw [hoL b hb]; exact (hL b).mp hb
      · cases List.mem_singleton.mp hb
        rw [upR_q]
        exact ⟨fun z => (by cases z), hqd⟩
      · obtain ⟨i, hi, rfl⟩ := List.mem_map.mp hb
        have hi' := List.mem_range.mp hi
        rw [upR_r hi' (hrq i hi')]
        exact ⟨fun z => (by cases z), hrd i hi'⟩
    · rintro ⟨hb1, hb2⟩
      by_cases e1 : b = q
      · exact Or.inl (Or.inr (List.mem_singleton.mpr e1))
      · by_cases e2 : ∃ i, i < N ∧ r i = b
        · obtain ⟨i, hi, rfl⟩ := e2
          exact Or.inr (List.mem_map.mpr ⟨i, List.mem_range.mpr hi, rfl⟩)
        · rw [upR_o e1 (fun i hi e => e2 ⟨i, hi, e⟩)] at hb1
          exact Or.inl (Or.inl ((hL b).mpr ⟨hb1, hb2⟩))
  · rw [upR_o (Ne.symm hqd) (fun i hi => hrd i hi)]
    exact h0
section PWN
variable {G : hG} {M : hMI} {d : Nat} {Ps : hAmb} {E : hEnd} {kc ks pc pc2 index cN sN : Nat} {L : List (Nat × Value)} {S : List Value} {h : hp}
theorem pw_mna {ty : FieldType} {n k : Int32} {N' K' : Nat} {z : vp_A} (t0 t1 : Nat) (ht0 : arrTys[t0]? = some (.array ty)) (ht1 : arrTys[t1]? = some ty) (hcy : ∀ U c, va_RA U c ty → U.vm.findClass (FieldType.array ty).toString = some c) (hover : ∀ U, hEnv U → va_AOA ty U) (w1 : Cond.classLink M.1.cls index ("[" ++ (FieldType.array ty).toString) ∈ gws) (w2 : Cond.arrayClass ty ∈ gws)
    (hn : ¬ n < 0) (hk : ¬ k < 0) (hN : n.toNatClampNeg = N') (hM : k.toNatClampNeg = K') (hb1 : N' * 4 ≤ 536870912) (hb2 : K' * componentBytes ty ≤ 536870912) (hb3 : K' ≤ 536870912) (hdf : fits ty (defaultValue ty) = true) (hdd : (defaultValue ty).isDefault = true) (hz : ∀ c : ClassId, Jvm.Free.Multi.innerC c K' (defaultValue ty) = vp_cell c z) (hcN : 1 + N' = cN) (hsN : N' + N' * K' = sN) (hdg : decode M.2.1 pc = .ok (.multianewarray index 2, 4)) (hpc : pc + 4 = pc2)
    (kk : ∀ (q : Nat) (r : Nat → Nat), h q = none → q ≠ G.2.2 → (∀ i, i < N' → h (r i) = none ∧ r i ≠ G.2.2 ∧ r i ≠ q) → (∀ i j, i < N' → j < N' → r i = r j → i = j) → PW G M d Ps E kc ks pc2 L (.ref q :: S) (upR h q (aR (.array ty) N' (fun i => if i < N' then some (r i) else none)) N' r (.inl (ty, z)))) :
    PW G M d Ps E (kc + cN) (ks + sN) pc L (.int k :: .int n :: S) h := by
  subst hpc
  intro p l e R s m args below meth c A H locs cells slots ls MC MS C0 hR hS hl hm
  have C1 := C0
  obtain ⟨hx, hb, hml, hown, hts, hr, htab, hnm, hlocks, hst0, -, hKk, hEe, hSt0, hA, hPs⟩ := C0
  obtain ⟨ws, hP, hD, hup⟩ := hR.mna hSt0.2.2.2
  have hc2 := hcy s _ (hKk.2 t1 _ (hK_ty hKk t1 ht1)).2
  refine va_mna (D := G.1) (X := ws) (L := []) (f := fun _ => .inr (0, [])) (z := z) hx hb hown (hts _ w1) (hover s hEe) (hts _ w2) hc2 hKk (by rw [show va_pl [] (fun _ => (.inr (0, []) : va_E)) = [] from rfl, List.append_nil]; exact hP) (by rw [show va_pl [] (fun _ => (.inr (0, []) : va_E)) = [] from rfl, List.append_nil]; exact hD) hS hA hn hk hN hM hb1 hb2 hb3 hdf hdd (by omega) (by omega) hz hdg (fun q r cA H1 hinj hnL hK1 p1 d1 s1 => ?_)
  have hcA := hK_new hKk hK1 t0 ht0
  subst hcA
  obtain ⟨e1, e2, e3, e4⟩ := hup q N' r (aR (.array ty) N' (fun i => if i < N' then some (r i) else none)) (.inl (ty, z)) _ H1 p1 d1 (dc_kept hSt0 hA hS s1 hR.2.2)
  exact kk q r e1 e2 e3 hinj p l e R s m args below meth c A H1 locs _ _ ls MC MS C1 e4 s1 hl ⟨by omega, by omega, hm.2.2.1, hm.2.2.2⟩
end PWN
