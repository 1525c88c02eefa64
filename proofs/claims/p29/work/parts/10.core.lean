/-! THE PURE LAYER: the heap as a function from addresses to cells; a walk PW over it, a contract PMet of it.
    Every method's words are the same list (the good words of the tables); room is counted by levels of calls. -/
abbrev hE : Type := (FieldType × vp_A) ⊕ (Nat × List Value)
abbrev hp : Type := Nat → Option hE
/-- the classes' numbers and slots, the array classes, the address of the lists' shared empty array -/
abbrev hG : Type := va_G × (FieldType → ClassId) × Nat
def hc (G : hG) (e : hE) : va_E := match e with
  | .inl q => .inl (G.2.1 q.1, q.2)
  | .inr o => .inr o
abbrev aI (n : Nat) (f : Nat → Int32) : hE := .inl (.int, n, .inl f)
abbrev aZ (n : Nat) (f : Nat → Int32) : hE := .inl (.boolean, n, .inl f)
abbrev aL (n : Nat) (f : Nat → Int64) : hE := .inl (.long, n, .inr (.inl f))
abbrev aD (n : Nat) (f : Nat → UInt64) : hE := .inl (.double, n, .inr (.inr (.inr (.inl f))))
abbrev aR (t : FieldType) (n : Nat) (f : Nat → Option Nat) : hE := .inl (t, n, .inr (.inr (.inr (.inr f))))
abbrev oB (ci : Nat) (fs : List Value) : hE := .inr (ci, fs)
abbrev tObj : FieldType := .object "java/lang/Object"
abbrev tRel : FieldType := .object "PackageForge$Release"
def arrTys : List FieldType := [.int, .boolean, .int, .int, tRel, tObj, .array .int, .array .int]
def hE0 : hE := aR tObj 0 (fun _ => none)
def hf (G : hG) (h : hp) (a : Nat) : va_E := match h a with
  | some e => hc G e
  | none => .inr (0, [])
def hTys (G : hG) : List (ClassId × FieldType) := arrTys.map (fun t => (G.2.1 t, t))
def hK (G : hG) (U : State) : Prop := va_K G.1 vwCl (hTys G) U
def gws : List Cond := lw_tbl.filter goodWord
theorem gws_of {w : Cond} (i : Nat) (h : lw_tbl[i]? = some w) (hg : goodWord w = true) : w ∈ gws := List.mem_filter.mpr ⟨List.mem_of_getElem? h, hg⟩
theorem gws_good : GoodIn gws gws := fun w h => ⟨h, good_of_word (List.mem_filter.mp h).2⟩
/-- words of the tables that a shift of links may touch, but keeps -/
def nestW : Cond → Bool
  | .fieldLinkNest .. => true
  | .methodLinkNest .. => true
  | .castable .. => true
  | .declares .. => true
  | _ => false
def nws : List Cond := lw_tbl.filter nestW
theorem nws_of {w : Cond} (i : Nat) (h : lw_tbl[i]? = some w) (hg : nestW w = true) : w ∈ nws := List.mem_filter.mpr ⟨List.mem_of_getElem? h, hg⟩
theorem nestW_warm {w : Cond} (hw : nestW w = true) {s U : State} (hW : s.WarmedH U.vm) (h : va_Nw w s) : va_Nw w U := by
  cases w with
  | fieldLinkNest a b c d e f => exact va_Nw.warmF hW h
  | methodLinkNest a b c d => exact va_Nw.warmM hW h
  | castable a b => exact va_Nw.warmC hW h
  | declares a => exact va_Nw.warmD hW h
  | _ => cases hw
/-- pairs of classes of which one is not the other (a handler's row that a throw passes) -/
def ncs : List (String × String) := [("java/lang/IllegalArgumentException", "java/lang/IndexOutOfBoundsException"), ("java/lang/IllegalStateException", "java/lang/IllegalArgumentException"), ("java/lang/IllegalStateException", "java/lang/IndexOutOfBoundsException"), ("java/util/NoSuchElementException", "java/lang/IndexOutOfBoundsException"), ("java/util/NoSuchElementException", "java/lang/IllegalArgumentException"), ("java/lang/UnsupportedOperationException", "java/lang/IndexOutOfBoundsException"), ("java/lang/IllegalStateException", "java/lang/UnsupportedOperationException"), ("java/lang/IllegalStateException", "java/util/NoSuchElementException"), ("java/lang/UnsupportedOperationException", "java/util/NoSuchElementException"), ("java/lang/UnsupportedOperationException", "java/lang/IllegalStateException")]
def hEnv (U : State) : Prop := (∀ w ∈ nws, va_Nw w U) ∧ (∀ (own : String) (k : Nat) (tx : String), Cond.stringRef own k tx ∈ lw_tbl → ∃ a, vk_R own k tx a U) ∧ (va_AO "PackageForge$Release" U ∧ va_AO "java/lang/Object" U ∧ va_AOA .int U ∧ va_AOA .int U) ∧ ∀ q ∈ ncs, va_Nc q.1 q.2 U
theorem va_AOA.moved {t : FieldType} {u U : State} (hvm : u.vm.Alike U.vm) (h : va_AOA t u) : va_AOA t U := by
  have hb : U.vm.bare = u.vm.bare := by first | exact hvm.bare_eq | exact hvm.bare_eq.symm
  have key : (Cond.arrayOver (.array t)).value #[] U none U [] = (Cond.arrayOver (.array t)).value #[] u none u [] := by
    simp only [Cond.value, hvm.findClass]
    refine congrArg (Option.bind _) (funext fun comp => ?_)
    have e := (va_idx_bare U.vm comp).symm.trans ((congrArg (fun v : Vm => v.classes.findIdx? fun (x : Class) => match x.kind with | .array component _ => component == comp | _ => false) hb).trans (va_idx_bare u.vm comp))
    refine congr (congrArg Option.bind e) (funext fun c => ?_)
    cases hu : u.vm.classes[c]? with
    | none =>
      cases hU : U.vm.classes[c]? with
      | none => rfl
      | some k' =>
        obtain ⟨k, hk, -⟩ := hvm.symm.2.2 _ _ hU
        rw [hu] at hk
        cases hk
    | some k =>
      obtain ⟨k', hk', he⟩ := hvm.2.2 _ _ hu
      rw [hk', he]
      rfl
  unfold va_AOA Cond.before Cond.holds at h ⊢
  rw [key]
  exact h
theorem hEnv.warm {s U : State} (hW : s.WarmedH U.vm) (h : hEnv s) : hEnv U := by
  obtain ⟨h1, h2, ⟨h3, h4, h5, h6⟩, h7⟩ := h
  exact ⟨fun w hw => nestW_warm (List.mem_filter.mp hw).2 hW (h1 w hw), fun o k t ht => by obtain ⟨a, ha⟩ := h2 o k t ht; exact ⟨a, vk_R.warm hW ha⟩, ⟨h3.moved hW.alike, h4.moved hW.alike, h5.moved hW.alike, h6.moved hW.alike⟩, fun q hq => (h7 q hq).moved hW.alike⟩
/-- the class object of Object[] (its address is kept among the array classes, at a type that no array here has) -/
def miO (G : hG) : Nat := G.2.1 (.array (.array (.array .int)))
/-- the statics that are read: where throwables begin, the lists' empty array -/
def hSt (G : hG) (A : Nat → Prop) (U : State) (H : Heap) : Prop := vx_Zq Bundle.tN "UNASSIGNED_STACK" Bundle.steD A U H ∧ vx_Zq Bundle.tN "SUPPRESSED_SENTINEL" Bundle.listD A U H ∧ (va_Z "java/util/ArrayList" "DEFAULTCAPACITY_EMPTY_ELEMENTDATA" "[Ljava/lang/Object;" (.ref G.2.2) A U H ∧ va_Mi "[Ljava/lang/Object;" (miO G) U) ∧ ¬ A G.2.2
theorem hSt.moved {G : hG} {A : Nat → Prop} {u U : State} {H : Heap} (hvm : u.vm.Alike U.vm) (h : hSt G A u H) : hSt G A U H := ⟨h.1.moved hvm, h.2.1.moved hvm, ⟨h.2.2.1.1.moved hvm, h.2.2.1.2.moved hvm⟩, h.2.2.2⟩
theorem hSt.kept {G : hG} {A : Nat → Prop} {U : State} {H H1 : Heap} (h : hSt G A U H) (hq : ∀ a : Nat, a < H.size → ¬ A a → H1[a]? = H[a]?) : hSt G A U H1 := ⟨h.1.kept hq, h.2.1.kept hq, ⟨h.2.2.1.1.kept hq, h.2.2.1.2⟩, h.2.2.2⟩
theorem hSt.narrow {G : hG} {A B : Nat → Prop} {U : State} {H : Heap} (h : hSt G A U H) (hAB : ∀ q, B q → A q) : hSt G B U H := ⟨h.1.narrow hAB, h.2.1.narrow hAB, ⟨h.2.2.1.1.narrow hAB, h.2.2.1.2⟩, fun q => h.2.2.2 (hAB _ q)⟩
/-- the lists' shared empty array: no method writes it; its monitor and its hash may be any -/
def cD (G : hG) (H : Heap) : Prop := ∃ cell : Cell, H[G.2.2]? = some cell ∧ cell.cls = G.2.1 tObj ∧ Int32.ofNat cell.slots.size = 0 ∧ ∀ k, cell.vm ≠ .statics k
theorem cD.lt {G : hG} {H : Heap} (h : cD G H) : G.2.2 < H.size := by
  obtain ⟨c, h1, -⟩ := h
  exact (Array.getElem?_eq_some_iff.mp h1).1
theorem cD.kept {G : hG} {H H1 : Heap} (h : cD G H) (e : H1[G.2.2]? = H[G.2.2]?) : cD G H1 := by
  obtain ⟨c, h1, h2⟩ := h
  exact ⟨c, e.trans h1, h2⟩
/-- the heap H holds the cells of h; its own ones lie in A -/
def RQ (G : hG) (A : Nat → Prop) (h : hp) (H : Heap) : Prop := (∃ L : List Nat, (∀ a, a ∈ L ↔ (h a ≠ none ∧ a ≠ G.2.2)) ∧ va_P G.1 vwCl (va_pl L (hf G h)) H ∧ va_D A (va_pl L (hf G h))) ∧ h G.2.2 = some hE0 ∧ cD G H
theorem hf_up (G : hG) (h : hp) (a : Nat) (e' : hE) : ∀ b, va_up (hf G h) a (hc G e') b = hf G (va_up h a (some e')) b := by
  intro b
  by_cases hb : b = a
  · subst hb
    simp [va_up, hf]
  · simp [va_up, hb, hf]
theorem hf_at {G : hG} {h : hp} {a : Nat} {e : hE} (ha : h a = some e) : hf G h a = hc G e := by simp [hf, ha]
theorem RQ.idx {G : hG} {A : Nat → Prop} {h : hp} {H : Heap} {L : List Nat} (hL : ∀ a, a ∈ L ↔ (h a ≠ none ∧ a ≠ G.2.2)) {a : Nat} {e : hE} (ha : h a = some e) (hne : a ≠ G.2.2) : a ∈ L ∧ ∃ k : Nat, (va_pl L (hf G h))[k]? = some (a, hc G e) := by
  have haL : a ∈ L := (hL a).mpr ⟨(by rw [ha]; exact fun q => by cases q), hne⟩
  obtain ⟨k, hk⟩ := va_pl_get (X := []) (f := hf G h) haL
  exact ⟨haL, k, by rw [← hf_at ha]; exact hk⟩
theorem RQ.at {G : hG} {A : Nat → Prop} {h : hp} {H : Heap} (hR : RQ G A h H) {a : Nat} {e : hE} (ha : h a = some e) (hne : a ≠ G.2.2) : va_at G.1 vwCl (a, hc G e) H := by
  obtain ⟨⟨L, hL, hP, hD⟩, h0, hz⟩ := hR
  obtain ⟨-, k, hk⟩ := RQ.idx (A := A) (H := H) hL ha hne
  exact hP k _ hk
theorem RQ.one {G : hG} {A : Nat → Prop} {h : hp} {H : Heap} (hR : RQ G A h H) {a : Nat} {e : hE} (ha : h a = some e) (hne : a ≠ G.2.2) : va_P G.1 vwCl [(a, hc G e)] H := by
  intro k q hk
  match k, hk with
  | 0, hk => cases hk; exact hR.at ha hne
  | k + 1, hk => simp at hk
theorem ne_dc {G : hG} {h : hp} {a : Nat} {A : Nat → Prop} {H : Heap} (hR : RQ G A h H) {o : Nat × List Value} (he : h a = some (.inr o)) : a ≠ G.2.2 := by
  intro e
  rw [e] at he
  have := hR.2.1.symm.trans he
  simp [hE0] at this
theorem ne_dcA {G : hG} {h : hp} {a : Nat} {A : Nat → Prop} {H : Heap} (hR : RQ G A h H) {t : FieldType} {n : Nat} {x : (Nat → Int32) ⊕ (Nat → Int64) ⊕ (Nat → UInt32) ⊕ (Nat → UInt64) ⊕ (Nat → Option Nat)} (he : h a = some (.inl (t, n, x))) (hn : 0 < n) : a ≠ G.2.2 := by
  intro e
  rw [e] at he
  have h9 := hR.2.1.symm.trans he
  have h8 : (0 : Nat) = n := by
    have h7 : hE0 = .inl (t, n, x) := Option.some.inj h9
    have h6 := Sum.inl.inj h7
    exact congrArg (fun q : FieldType × vp_A => q.2.1) h6
  omega
theorem pos_in {i : Int32} {n : Nat} (hin : vp_in i n) : 0 < n := by
  rcases Nat.eq_zero_or_pos n with q | q
  · subst q
    exact absurd (Or.inr (Nat.zero_le _)) hin
  · exact q
/-- one cell is written -/
theorem RQ.wr {G : hG} {A : Nat → Prop} {h : hp} {H : Heap} (hR : RQ G A h H) {a : Nat} {e : hE} (ha : h a = some e) (hne : a ≠ G.2.2) : ∃ (ws : va_W) (k : Nat), va_P G.1 vwCl ws H ∧ va_D A ws ∧ ws[k]? = some (a, hc G e) ∧
    ∀ (e' : hE) (H1 : Heap), va_P G.1 vwCl (ws.set k (a, hc G e')) H1 → va_D A (ws.set k (a, hc G e')) → cD G H1 → RQ G A (va_up h a (some e')) H1 := by
  obtain ⟨⟨L, hL, hP, hD⟩, h0, hz⟩ := hR
  obtain ⟨haL, k, hk⟩ := RQ.idx (A := A) (H := H) hL ha hne
  refine ⟨va_pl L (hf G h), k, hP, hD, hk, fun e' H1 p1 d1 z1 => ?_⟩
  have hk2 : ([] ++ va_pl L (hf G h))[k]? = some (a, hf G h a) := by rw [hf_at ha]; exact hk
  have hset : (va_pl L (hf G h)).set k (a, hc G e') = va_pl L (hf G (va_up h a (some e'))) := (va_pl_set (X := []) (A := A) (e := hc G e') hD haL hk2).trans (va_pl_congr (hf_up G h a e'))
  rw [hset] at p1 d1
  refine ⟨⟨L, fun b => ?_, p1, d1⟩, ?_, z1⟩
  · by_cases hb : b = a
    · subst hb
      rw [va_up_self]
      exact ⟨fun _ => ⟨(fun q => by cases q), hne⟩, fun _ => haL⟩
    · rw [va_up_ne _ _ hb]
      exact hL b
  · rw [va_up_ne _ _ (Ne.symm hne)]
    exact h0
/-- a new cell -/
theorem RQ.new {G : hG} {A : Nat → Prop} {h : hp} {H : Heap} (hR : RQ G A h H) (hnd : ¬ A G.2.2) : ∃ ws : va_W, va_P G.1 vwCl ws H ∧ va_D A ws ∧
    ∀ (q : Nat) (e : hE) (H1 : Heap), va_P G.1 vwCl (ws ++ [(q, hc G e)]) H1 → va_D A (ws ++ [(q, hc G e)]) → cD G H1 → h q = none ∧ q ≠ G.2.2 ∧ RQ G A (va_up h q (some e)) H1 := by
  obtain ⟨⟨L, hL, hP, hD⟩, h0, hz⟩ := hR
  refine ⟨va_pl L (hf G h), hP, hD, fun q e H1 p1 d1 z1 => ?_⟩
  have hq : q ∉ L := va_pl_fresh2 (X := []) (A := A) (e := hc G e) d1
  have hAq : A q := d1.2 (va_pl L (hf G h)).length (q, hc G e) (by rw [List.getElem?_append_right (Nat.le_refl _), Nat.sub_self]; rfl)
  have hne : q ≠ G.2.2 := fun x => hnd (x ▸ hAq)
  have hn : h q = none := by
    cases hh : h q with
    | none => rfl
    | some x => exact absurd ((hL q).mpr ⟨(by rw [hh]; exact fun z => by cases z), hne⟩) hq
  rw [va_pl_push hq, va_pl_congr (hf_up G h q e)] at p1 d1
  refine ⟨hn, hne, ⟨L ++ [q], fun b => ?_, p1, d1⟩, ?_, z1⟩
  · by_cases hb : b = q
    · subst hb
      rw [va_up_self]
      exact ⟨fun _ => ⟨(fun x => by cases x), hne⟩, fun _ => List.mem_append_right _ List.mem_cons_self⟩
    · rw [va_up_ne _ _ hb]
      refine ⟨fun hm => ?_, fun hm => List.mem_append_left _ ((hL b).mpr hm)⟩
      rcases List.mem_append.mp hm with hm | hm
      · exact (hL b).mp hm
      · exact absurd (List.mem_singleton.mp hm) hb
  · rw [va_up_ne _ _ (Ne.symm hne)]
    exact h0
/-- a callee's cells: the world's, and what comes from sz on -/
def dm (G : hG) (h : hp) (sz : Nat) : Nat → Prop := fun q => (h q ≠ none ∧ q ≠ G.2.2) ∨ sz ≤ q
theorem RQ.toDm {G : hG} {A : Nat → Prop} {h : hp} {H : Heap} (hR : RQ G A h H) (sz : Nat) : RQ G (dm G h sz) h H := by
  obtain ⟨⟨L, hL, hP, hD⟩, h0, hz⟩ := hR
  refine ⟨⟨L, hL, hP, hD.1, fun k q hk => ?_⟩, h0, hz⟩
  obtain ⟨a, ha, rfl⟩ := List.mem_map.mp (List.mem_of_getElem? hk)
  exact Or.inl ((hL a).mp ha)
theorem RQ.dmSub {G : hG} {A : Nat → Prop} {h : hp} {H : Heap} (hR : RQ G A h H) {sz : Nat} (hA : ∀ q, sz ≤ q → A q) : ∀ q, dm G h sz q → A q := by
  intro q hq
  obtain ⟨⟨L, hL, hP, hD⟩, h0, hz⟩ := hR
  rcases hq with hq | hq
  · have hm := (hL q).mpr hq
    obtain ⟨k, hk⟩ := va_pl_get (X := []) (f := hf G h) hm
    exact hD.2 k _ hk
  · exact hA q hq
theorem RQ.wide {G : hG} {A B : Nat → Prop} {h : hp} {H : Heap} (hR : RQ G A h H) (hAB : ∀ q, A q → B q) : RQ G B h H := by
  obtain ⟨⟨L, hL, hP, hD⟩, h0, hz⟩ := hR
  exact ⟨⟨L, hL, hP, hD.1, fun k q hk => hAB _ (hD.2 k q hk)⟩, h0, hz⟩
