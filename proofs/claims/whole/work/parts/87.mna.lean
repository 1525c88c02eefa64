/-! a row of rows; the new cells of a constructor by tags -/
noncomputable def upR (h : hp) (q : Nat) (eo : hE) (N : Nat) (r : Nat → Nat) (ei : hE) : hp := fun x => if x = q then some eo else dit (∃ i, i < N ∧ r i = x) (some ei) (h x)
theorem upR_q {h : hp} {q N : Nat} {r : Nat → Nat} {eo ei : hE} : upR h q eo N r ei q = some eo := if_pos rfl
theorem upR_r {h : hp} {q N i : Nat} {r : Nat → Nat} {eo ei : hE} (hi : i < N) (hn : r i ≠ q) : upR h q eo N r ei (r i) = some ei := (if_neg hn).trans (dit_t ⟨i, hi, rfl⟩)
theorem upR_o {h : hp} {q N x : Nat} {r : Nat → Nat} {eo ei : hE} (h1 : x ≠ q) (h2 : ∀ i, i < N → r i ≠ x) : upR h q eo N r ei x = h x := (if_neg h1).trans (dit_f (fun ⟨i, a, b⟩ => h2 i a b))
theorem mna_memP {α : Type} {P Q : List α} {e x : α} (hx : x ∈ P) : ∃ k, k < P.length ∧ ((P ++ [e]) ++ Q)[k]? = some x := by
  obtain ⟨k, hk⟩ := List.mem_iff_getElem?.mp hx
  have hl : k < P.length := (List.getElem?_eq_some_iff.mp hk).1
  refine ⟨k, hl, ?_⟩
  rw [List.getElem?_append_left (by rw [List.length_append]; omega), List.getElem?_append_left hl]
  exact hk
theorem mna_memE {α : Type} {P Q : List α} {e : α} : ((P ++ [e]) ++ Q)[P.length]? = some e := by
  rw [List.getElem?_append_left (by rw [List.length_append]; exact Nat.lt_succ_self _), List.getElem?_append_right (Nat.le_refl _), Nat.sub_self]
  rfl
theorem mna_memQ {α : Type} {P Q : List α} {e x : α} (hx : x ∈ Q) : ∃ k, P.length < k ∧ ((P ++ [e]) ++ Q)[k]? = some x := by
  obtain ⟨k, hk⟩ := List.mem_iff_getElem?.mp hx
  refine ⟨P.length + 1 + k, by omega, ?_⟩
  have hlen : (P ++ [e]).length = P.length + 1 := by rw [List.length_append]; rfl
  rw [List.getElem?_append_right (by omega), hlen, Nat.add_sub_cancel_left]
  exact hk
theorem RQ.mna {G : hG} {A : Nat → Prop} {h : hp} {H : Heap} (hR : RQ G A h H) (hnd : ¬ A G.2.2) : ∃ ws : va_W, va_P G.1 vwCl ws H ∧ va_D A ws ∧
    ∀ (q N : Nat) (r : Nat → Nat) (eo ei : hE) (fx : Nat → va_E) (H1 : Heap), va_P G.1 vwCl ((ws ++ [(q, hc G eo)]) ++ va_pl ([] ++ (List.range N).map r) (vr_up fx ((List.range N).map r) (hc G ei))) H1 → va_D A ((ws ++ [(q, hc G eo)]) ++ va_pl ([] ++ (List.range N).map r) (vr_up fx ((List.range N).map r) (hc G ei))) → cD G H1 →
      h q = none ∧ q ≠ G.2.2 ∧ (∀ i, i < N → h (r i) = none ∧ r i ≠ G.2.2 ∧ r i ≠ q) ∧ RQ G A (upR h q eo N r ei) H1 := by
  obtain ⟨⟨L, hL, hP, hD⟩, h0, hz⟩ := hR
  refine ⟨va_pl L (hf G h), hP, hD, fun q N r eo ei fx H1 p1 d1 z1 => ?_⟩
  rw [List.nil_append] at p1 d1
  have mL : ∀ a, a ∈ L → (a, hf G h a) ∈ va_pl L (hf G h) := fun a ha => List.mem_map.mpr ⟨a, ha, rfl⟩
  have mR : ∀ i, i < N → (r i, vr_up fx ((List.range N).map r) (hc G ei) (r i)) ∈ va_pl ((List.range N).map r) (vr_up fx ((List.range N).map r) (hc G ei)) := fun i hi => List.mem_map.mpr ⟨r i, List.mem_map.mpr ⟨i, List.mem_range.mpr hi, rfl⟩, rfl⟩
  have hqL : q ∉ L := fun hq => by
    obtain ⟨k, hk1, hk2⟩ := mna_memP (e := (q, hc G eo)) (Q := va_pl ((List.range N).map r) (vr_up fx ((List.range N).map r) (hc G ei))) (mL q hq)
    have := d1.1 k _ _ _ hk2 mna_memE rfl
    omega
  have hrL : ∀ i, i < N → r i ∉ L := fun i hi hq => by
    obtain ⟨k, hk1, hk2⟩ := mna_memP (e := (q, hc G eo)) (Q := va_pl ((List.range N).map r) (vr_up fx ((List.range N).map r) (hc G ei))) (mL _ hq)
    obtain ⟨k2, hk3, hk4⟩ := mna_memQ (P := va_pl L (hf G h)) (e := (q, hc G eo)) (mR i hi)
    have := d1.1 k k2 _ _ hk2 hk4 rfl
    omega
  have hrq : ∀ i, i < N → r i ≠ q := fun i hi hq => by
    obtain ⟨k2, hk3, hk4⟩ := mna_memQ (P := va_pl L (hf G h)) (e := (q, hc G eo)) (mR i hi)
    have := d1.1 _ k2 _ _ mna_memE hk4 hq.symm
    omega
  have hAq : A q := d1.2 _ _ mna_memE
  have hAr : ∀ i, i < N → A (r i) := fun i hi => by
    obtain ⟨k2, -, hk4⟩ := mna_memQ (P := va_pl L (hf G h)) (e := (q, hc G eo)) (mR i hi)
    exact d1.2 _ _ hk4
  have hqd : q ≠ G.2.2 := fun x => hnd (x ▸ hAq)
  have hrd : ∀ i, i < N → r i ≠ G.2.2 := fun i hi x => hnd (x ▸ hAr i hi)
  have hnn : ∀ a, a ∉ L → a ≠ G.2.2 → h a = none := fun a ha hne => by
    cases hh : h a with
    | none => rfl
    | some x => exact absurd ((hL a).mpr ⟨(by rw [hh]; exact fun z => by cases z), hne⟩) ha
  have hoL : ∀ a, a ∈ L → upR h q eo N r ei a = h a := fun a ha => upR_o (fun e => hqL (e ▸ ha)) (fun i hi e => hrL i hi (e ▸ ha))
  have eW : (va_pl L (hf G h) ++ [(q, hc G eo)]) ++ va_pl ((List.range N).map r) (vr_up fx ((List.range N).map r) (hc G ei)) = va_pl ((L ++ [q]) ++ (List.range N).map r) (hf G (upR h q eo N r ei)) := by
    unfold va_pl
    rw [List.map_append, List.map_append]
    congr 1
    · congr 1
      · refine List.map_congr_left (fun a ha => ?_)
        show (a, hf G h a) = (a, hf G (upR h q eo N r ei) a)
        unfold hf
        rw [hoL a ha]
      · show [(q, hc G eo)] = [(q, hf G (upR h q eo N r ei) q)]
        rw [hf_at (e := eo) upR_q]
    · refine List.map_congr_left (fun a ha => ?_)
      obtain ⟨i, hi, rfl⟩ := List.mem_map.mp ha
      have hi' := List.mem_range.mp hi
      show (r i, vr_up fx ((List.range N).map r) (hc G ei) (r i)) = (r i, hf G (upR h q eo N r ei) (r i))
      rw [hf_at (upR_r hi' (hrq i hi')), show vr_up fx ((List.range N).map r) (hc G ei) (r i) = hc G ei from if_pos ha]
  rw [eW] at p1 d1
  refine ⟨hnn q hqL hqd, hqd, fun i hi => ⟨hnn _ (hrL i hi) (hrd i hi), hrd i hi, hrq i hi⟩, ⟨(L ++ [q]) ++ (List.range N).map r, fun b => ?_, p1, d1⟩, ?_, z1⟩
  · rw [List.mem_append, List.mem_append]
    constructor
    · rintro ((hb | hb) | hb)
      · rw [hoL b hb]; exact (hL b).mp hb
      · cases List.mem_singleton.mp hb
        rw [upR_q]
        exact ⟨fun z => (by cases z), hqd⟩
      · obtain ⟨i, hi, rfl⟩ := List.mem_map.mp hb
        have hi' := List.mem_range.mp hi
        rw [upR_r hi' (hrq i hi')]
        exact ⟨fun z => (by cases z), hrd i hi'⟩
    · rintro ⟨hb1, hb2⟩
      by_cases e1 : b = q
      · exact Or.inl (Or.inr (List.mem_singleton.mpr e1))
      · by_cases e2 : ∃ i, i < N ∧ r i = b
        · obtain ⟨i, hi, rfl⟩ := e2
          exact Or.inr (List.mem_map.mpr ⟨i, List.mem_range.mpr hi, rfl⟩)
        · rw [upR_o e1 (fun i hi e => e2 ⟨i, hi, e⟩)] at hb1
          exact Or.inl (Or.inl ((hL b).mpr ⟨hb1, hb2⟩))
  · rw [upR_o (Ne.symm hqd) (fun i hi => hrd i hi)]
    exact h0
section PWN
variable {G : hG} {M : hMI} {d : Nat} {Ps : hAmb} {E : hEnd} {kc ks pc pc2 index cN sN : Nat} {L : List (Nat × Value)} {S : List Value} {h : hp}
theorem pw_mna {ty : FieldType} {n k : Int32} {N' K' : Nat} {z : vp_A} (t0 t1 : Nat) (ht0 : arrTys[t0]? = some (.array ty)) (ht1 : arrTys[t1]? = some ty) (hcy : ∀ U c, va_RA U c ty → U.vm.findClass (FieldType.array ty).toString = some c) (hover : ∀ U, hEnv U → va_AOA ty U) (w1 : Cond.classLink M.1.cls index ("[" ++ (FieldType.array ty).toString) ∈ gws) (w2 : Cond.arrayClass ty ∈ gws)
    (hn : ¬ n < 0) (hk : ¬ k < 0) (hN : n.toNatClampNeg = N') (hM : k.toNatClampNeg = K') (hb1 : N' * 4 ≤ 536870912) (hb2 : K' * componentBytes ty ≤ 536870912) (hb3 : K' ≤ 536870912) (hdf : fits ty (defaultValue ty) = true) (hdd : (defaultValue ty).isDefault = true) (hz : ∀ c : ClassId, Jvm.Free.Multi.innerC c K' (defaultValue ty) = vp_cell c z) (hcN : 1 + N' = cN) (hsN : N' + N' * K' = sN) (hdg : decode M.2.1 pc = .ok (.multianewarray index 2, 4)) (hpc : pc + 4 = pc2)
    (kk : ∀ (q : Nat) (r : Nat → Nat), h q = none → q ≠ G.2.2 → (∀ i, i < N' → h (r i) = none ∧ r i ≠ G.2.2 ∧ r i ≠ q) → (∀ i j, i < N' → j < N' → r i = r j → i = j) → PW G M d Ps E kc ks pc2 L (.ref q :: S) (upR h q (aR (.array ty) N' (fun i => if i < N' then some (r i) else none)) N' r (.inl (ty, z)))) :
    PW G M d Ps E (kc + cN) (ks + sN) pc L (.int k :: .int n :: S) h := by
  subst hpc
  intro p l e R s m args below meth c A H locs cells slots ls MC MS C0 hR hS hl hm
  have C1 := C0
  obtain ⟨hx, hb, hml, hown, hts, hr, htab, hnm, hlocks, hst0, -, hKk, hEe, hSt0, hA, hPs⟩ := C0
  obtain ⟨ws, hP, hD, hup⟩ := hR.mna hSt0.2.2.2
  have hc2 := hcy s _ (hKk.2 t1 _ (hK_ty hKk t1 ht1)).2
  refine va_mna (D := G.1) (X := ws) (L := []) (f := fun _ => .inr (0, [])) (z := z) hx hb hown (hts _ w1) (hover s hEe) (hts _ w2) hc2 hKk (by rw [show va_pl [] (fun _ => (.inr (0, []) : va_E)) = [] from rfl, List.append_nil]; exact hP) (by rw [show va_pl [] (fun _ => (.inr (0, []) : va_E)) = [] from rfl, List.append_nil]; exact hD) hS hA hn hk hN hM hb1 hb2 hb3 hdf hdd (by omega) (by omega) hz hdg (fun q r cA H1 hinj hnL hK1 p1 d1 s1 => ?_)
  have hcA := hK_new hKk hK1 t0 ht0
  subst hcA
  obtain ⟨e1, e2, e3, e4⟩ := hup q N' r (aR (.array ty) N' (fun i => if i < N' then some (r i) else none)) (.inl (ty, z)) _ H1 p1 d1 (dc_kept hSt0 hA hS s1 hR.2.2)
  exact kk q r e1 e2 e3 hinj p l e R s m args below meth c A H1 locs _ _ ls MC MS C1 e4 s1 hl ⟨by omega, by omega, hm.2.2.1, hm.2.2.2⟩
end PWN
/-- new cells by their tags: those of T are made; what was stays, but for x -/
def NW (G : hG) (h0 h : hp) (x : Nat) (T : List Nat) (A : aT) (B : Nat → Nat → hE) : Prop := (∀ t i, t ∈ T → vd sZ t i → h (A t i) = some (B t i) ∧ h0 (A t i) = none ∧ A t i ≠ G.2.2) ∧ (∀ t i u j, t ∈ T → u ∈ T → vd sZ t i → vd sZ u j → A t i = A u j → t = u ∧ i = j) ∧ ∀ y c, h0 y = some c → y ≠ x → h y = some c
def up1 {α : Type} (F : Nat → Nat → α) (t : Nat) (v : α) : Nat → Nat → α := fun u j => if u = t then v else F u j
def up2 {α : Type} (F : Nat → Nat → α) (t u : Nat) (v : α) (w : Nat → α) : Nat → Nat → α := fun a j => if a = t then v else if a = u then w j else F a j
section NWS
variable {G : hG} {h0 h : hp} {x : Nat} {T : List Nat} {A : aT} {B : Nat → Nat → hE}
theorem NW.nil {c : hE} (hx : h0 x = some c) : NW G h0 h0 x [] A B := ⟨fun t i ht => absurd ht List.not_mem_nil, fun t i u j ht => absurd ht List.not_mem_nil, fun y c e _ => e⟩
theorem NW.old (H : NW G h0 h x T A B) {q : Nat} (hq : h q = none) {c : hE} (hx : h x = some c) : h0 q = none := by
  cases e : h0 q with
  | none => rfl
  | some z =>
    by_cases eq : q = x
    · rw [eq, hx] at hq; cases hq
    · rw [H.2.2 q z e eq] at hq; cases hq
theorem NW.put (H : NW G h0 h x T A B) {c0 : hE} (hx0 : h0 x = some c0) {c : hE} : NW G h0 (va_up h x (some c)) x T A B := by
  refine ⟨fun t i ht hv => ?_, H.2.1, fun y c e hy => ?_⟩
  · obtain ⟨a, b, d⟩ := H.1 t i ht hv
    exact ⟨(va_up_ne _ _ (fun z => by rw [z, hx0] at b; cases b)).trans a, b, d⟩
  · exact (va_up_ne _ _ hy).trans (H.2.2 y c e hy)
theorem NW.one (H : NW G h0 h x T A B) {c0 c1 : hE} (hx0 : h0 x = some c0) (hx : h x = some c1) (t : Nat) {q : Nat} (hq : h q = none) (hqd : q ≠ G.2.2) (ht : t ∉ T) (hv : ∀ i, vd sZ t i → i = 0) {c : hE} : NW G h0 (va_up h q (some c)) x (t :: T) (up1 A t q) (up1 B t c) := by
  have hq0 := H.old hq hx
  have hold : ∀ u i, u ∈ T → vd sZ u i → A u i ≠ q := fun u i hu hvu e => by
    have := (H.1 u i hu hvu).1
    rw [e, hq] at this
    cases this
  have eT : ∀ u, u ∈ T → u ≠ t := fun u hu e => ht (e ▸ hu)
  refine ⟨fun u i hu hvu => ?_, fun u i w j hu hw hvu hvw e => ?_, fun y c2 e hy => ?_⟩
  · rcases List.mem_cons.mp hu with rfl | hu
    · rw [show up1 A u q u i = q from if_pos rfl, show up1 B u c u i = c from if_pos rfl, va_up_self]
      exact ⟨rfl, hq0, hqd⟩
    · rw [show up1 A t q u i = A u i from if_neg (eT u hu), show up1 B t c u i = B u i from if_neg (eT u hu), va_up_ne _ _ (hold u i hu hvu)]
      exact H.1 u i hu hvu
  · have c1 := List.mem_cons.mp hu
    have c2 := List.mem_cons.mp hw
    clear hu hw
    rcases c1 with rfl | g1 <;> rcases c2 with rfl | g2
    · exact ⟨rfl, (hv i hvu).trans (hv j hvw).symm⟩
    · rw [show up1 A u q u i = q from if_pos rfl, show up1 A u q w j = A w j from if_neg (eT w g2)] at e
      exact absurd e.symm (hold w j g2 hvw)
    · rw [show up1 A w q w j = q from if_pos rfl, show up1 A w q u i = A u i from if_neg (eT u g1)] at e
      exact absurd e (hold u i g1 hvu)
    · rw [show up1 A t q u i = A u i from if_neg (eT u g1), show up1 A t q w j = A w j from if_neg (eT w g2)] at e
      exact H.2.1 u i w j g1 g2 hvu hvw e
  · have h2 := H.2.2 y c2 e hy
    exact (va_up_ne _ _ (fun z => by rw [z, hq] at h2; cases h2)).trans h2
theorem NW.rows (H : NW G h0 h x T A B) {c0 c1 : hE} (hx0 : h0 x = some c0) (hx : h x = some c1) (t s : Nat) {q N : Nat} {r : Nat → Nat} {eo ei : hE} (hq : h q = none) (hqd : q ≠ G.2.2) (hr : ∀ i, i < N → h (r i) = none ∧ r i ≠ G.2.2 ∧ r i ≠ q) (hinj : ∀ i j, i < N → j < N → r i = r j → i = j) (ht : t ∉ T) (hs : s ∉ T) (hts : s ≠ t) (hv : ∀ i, vd sZ t i → i = 0) (hvs : ∀ i, vd sZ s i → i < N) : NW G h0 (upR h q eo N r ei) x (t :: s :: T) (up2 A t s q r) (up2 B t s eo (fun _ => ei)) := by
  have hq0 := H.old hq hx
  have hr0 : ∀ i, i < N → h0 (r i) = none := fun i hi => H.old (hr i hi).1 hx
  have hnn : ∀ u i, u ∈ T → vd sZ u i → ∀ y, h y = none → A u i ≠ y := fun u i hu hvu y hy e => by
    have := (H.1 u i hu hvu).1
    rw [e, hy] at this
    cases this
  have eT : ∀ u, u ∈ T → u ≠ t ∧ u ≠ s := fun u hu => ⟨fun e => ht (e ▸ hu), fun e => hs (e ▸ hu)⟩
  have a1 : ∀ i, up2 A t s q r t i = q := fun i => if_pos rfl
  have a2 : ∀ i, up2 A t s q r s i = r i := fun i => (if_neg hts).trans (if_pos rfl)
  have a3 : ∀ u i, u ∈ T → up2 A t s q r u i = A u i := fun u i hu => (if_neg (eT u hu).1).trans (if_neg (eT u hu).2)
  have b1 : ∀ i, up2 B t s eo (fun _ => ei) t i = eo := fun i => if_pos rfl
  have b2 : ∀ i, up2 B t s eo (fun _ => ei) s i = ei := fun i => (if_neg hts).trans (if_pos rfl)
  have b3 : ∀ u i, u ∈ T → up2 B t s eo (fun _ => ei) u i = B u i := fun u i hu => (if_neg (eT u hu).1).trans (if_neg (eT u hu).2)
  have cs : ∀ u, u ∈ t :: s :: T → u = t ∨ u = s ∨ u ∈ T := fun u hu => by
    rcases List.mem_cons.mp hu with e | hu
    · exact Or.inl e
    · exact Or.inr (List.mem_cons.mp hu)
  refine ⟨fun u i hu hvu => ?_, fun u i w j hu hw hvu hvw e => ?_, fun y c2 e hy => ?_⟩
  · rcases cs u hu with rfl | rfl | hu
    · rw [a1, b1, upR_q]; exact ⟨rfl, hq0, hqd⟩
    · have hi := hvs i hvu
      rw [a2, b2, upR_r hi (hr i hi).2.2]; exact ⟨rfl, hr0 i hi, (hr i hi).2.1⟩
    · rw [a3 u i hu, b3 u i hu, upR_o (hnn u i hu hvu q hq) (fun k hk => (hnn u i hu hvu _ (hr k hk).1).symm)]
      exact H.1 u i hu hvu
  · have c1 := cs u hu
    have c2 := cs w hw
    clear hu hw cs
    rcases c1 with rfl | rfl | g1 <;> rcases c2 with rfl | rfl | g2
    · exact ⟨rfl, (hv i hvu).trans (hv j hvw).symm⟩
    · rw [a1, a2] at e; exact absurd e.symm (hr j (hvs j hvw)).2.2
    · rw [a1, a3 w j g2] at e; exact absurd e.symm (hnn w j g2 hvw q hq)
    · rw [a1, a2] at e; exact absurd e (hr i (hvs i hvu)).2.2
    · rw [a2, a2] at e; exact ⟨rfl, hinj i j (hvs i hvu) (hvs j hvw) e⟩
    · rw [a2, a3 w j g2] at e; exact absurd e.symm (hnn w j g2 hvw _ (hr i (hvs i hvu)).1)
    · rw [a1, a3 u i g1] at e; exact absurd e (hnn u i g1 hvu q hq)
    · rw [a2, a3 u i g1] at e; exact absurd e (hnn u i g1 hvu _ (hr j (hvs j hvw)).1)
    · rw [a3 u i g1, a3 w j g2] at e; exact H.2.1 u i w j g1 g2 hvu hvw e
  · have h2 := H.2.2 y c2 e hy
    exact (upR_o (fun z => by rw [z, hq] at h2; cases h2) (fun i hi z => by rw [← z, (hr i hi).1] at h2; cases h2)).trans h2
end NWS
