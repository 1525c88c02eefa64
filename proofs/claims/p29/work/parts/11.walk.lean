/-! a walk over the pure heap -/
abbrev hMI : Type := MethodName × ByteArray × Nat × Option FieldType × List (Nat × Nat × Nat × Nat)
abbrev hEnd : Type := List Frame → Array Value → State → (Nat → Prop) → Nat → Nat → State → Prop
abbrev hAmb : Type := State → (Nat → Prop) → Prop
def noA : hAmb := fun _ _ => True
def rmOf (d mc ms : Nat) : Room := { frames := d + 6, cells := mc, slots := ms, locals := 40 * d + 100 }
def wsOf (M : hMI) : List Cond := (if M.2.2.2.2 = [] then Cond.code M.1 M.2.1 M.2.2.1 M.2.2.2.1 else Cond.codeWith M.1 M.2.1 M.2.2.1 M.2.2.2.1 M.2.2.2.2) :: gws
/-- what holds all along a method's walk -/
def CX (G : hG) (M : hMI) (d : Nat) (Ps : hAmb) (p : Program) (l : Launch) (R : Room) (s : State) (m : MethodId) (args : Array Value) (meth : Method) (c : Code) (A : Nat → Prop) : Prop :=
  p.tables.exec = Jvm.exec ∧ c.code = M.2.1 ∧ c.maxLocals = M.2.2.1 ∧ s.vm.findClass M.1.cls = some m.cls ∧ (∀ w ∈ gws, w.before args s = true) ∧ meth.sig.returnType = M.2.2.2.1 ∧ c.exceptionTable.toList = tableOf M.2.2.2.2 ∧ meth.name = M.1.name ∧ meth.locks = false ∧ l.stackTraces = false ∧ (d + 6 ≤ R.frames ∧ 40 * d + 100 ≤ R.locals) ∧ hK G s ∧ hEnv s ∧ hSt G A s s.heap ∧ (∀ q : Nat, s.heap.size ≤ q → A q) ∧ Ps s A
def PW (G : hG) (M : hMI) (d : Nat) (Ps : hAmb) (E : hEnd) (kc ks pc : Nat) (L : List (Nat × Value)) (S : List Value) (h : hp) : Prop :=
  ∀ (p : Program) (l : Launch) (e : Env) (R : Room) (s : State) (m : MethodId) (args : Array Value) (below : List Frame) (meth : Method) (c : Code) (A : Nat → Prop) (H : Heap) (locs : List Loc) (cells slots : Nat) (ls : Array Slot) (MC MS : Nat),
    CX G M d Ps p l R s m args meth c A → RQ G A h H → va_S A s.heap H locs → lv_has ls M.2.2.1 L → (cells + kc ≤ MC ∧ slots + ks ≤ MS ∧ MC ≤ R.cells ∧ MS ≤ R.slots) →
    W p l e R s m args below meth c H locs cells slots (E below args s A MC MS) (F0 m pc ls S)
/-- with something thrown over the frame -/
def PX (G : hG) (M : hMI) (d : Nat) (Ps : hAmb) (E : hEnd) (kc ks pc : Nat) (L : List (Nat × Value)) (X : String) (h : hp) : Prop :=
  ∀ (p : Program) (l : Launch) (e : Env) (R : Room) (s : State) (m : MethodId) (args : Array Value) (below : List Frame) (meth : Method) (c : Code) (A : Nat → Prop) (H : Heap) (locs : List Loc) (cells slots : Nat) (ls : Array Slot) (MC MS : Nat) (rest : List Value) (ce : Cell) (q : Addr),
    CX G M d Ps p l R s m args meth c A → RQ G A h H → va_S A s.heap H locs → lv_has ls M.2.2.1 L → (cells + kc ≤ MC ∧ slots + ks ≤ MS ∧ MC ≤ R.cells ∧ MS ≤ R.slots) →
    H[q]? = some ce → ce.vm = .none → s.vm.findClass X = some ce.cls →
    vx_W p l e R s m args below meth c H locs cells slots (E below args s A MC MS) (F0 m pc ls rest) q
/-- how a method ends: it returned r in the heap h', or threw an X in it -/
def hQc (G : hG) (Q : Option Value → hp → Prop) (A : Nat → Prop) : Array Value → State → Outcome → State → Prop := fun _ st oc t => (∃ (r : Option Value) (h' : hp), oc = .returned r ∧ Q r h' ∧ RQ G A h' t.heap) ∧ va_F A st t
def hXc (G : hG) (X : String → hp → Prop) (A : Nat → Prop) : String → State → State → Prop := fun C st t => (∃ h' : hp, X C h' ∧ RQ G A h' t.heap) ∧ va_F A st t
def E0 (G : hG) (Q : Option Value → hp → Prop) (X : String → hp → Prop) : hEnd := fun below args s A MC MS => vx_MQ below (hQc G Q A) (hXc G X A) args s MC MS A
def hPre (G : hG) (h : hp) (sz : Nat) (U : State) : Prop := U.heap.size = sz ∧ RQ G (dm G h sz) h U.heap ∧ hSt G (dm G h sz) U U.heap ∧ hK G U ∧ hEnv U
/-- THE CONTRACT of a method at the arguments As and the heap h: at every level from k on -/
def PMet (G : hG) (M : hMI) (k mc ms : Nat) (As : List Value) (h : hp) (Q : Option Value → hp → Prop) (X : String → hp → Prop) : Prop :=
  ∀ (l : Launch) (d sz : Nat), l.stackTraces = false → k ≤ d → vx_Met l M.1 (wsOf M) (rmOf d mc ms) (va_Pc As (hPre G h sz)) (hQc G Q (dm G h sz)) (hXc G X (dm G h sz)) mc ms (dm G h sz)
def noX : String → hp → Prop := fun _ _ => False
def det (r : Option Value) (h1 : hp) : Option Value → hp → Prop := fun r' h' => r' = r ∧ h' = h1
theorem hPre.vm {G : hG} {h : hp} {sz : Nat} {u U : State} (hh : U.heap = u.heap) (hW : u.WarmedH U.vm) (H : hPre G h sz u) : hPre G h sz U := by
  obtain ⟨h1, h2, h3, h4, h5⟩ := H
  exact ⟨by rw [hh]; exact h1, by rw [hh]; exact h2, by rw [hh]; exact h3.moved hW.alike, va_K.moved hW.alike h4, h5.warm hW⟩
theorem PMet.mono {G : hG} {M : hMI} {k mc ms : Nat} {As : List Value} {h : hp} {Q Q' : Option Value → hp → Prop} {X X' : String → hp → Prop} (H : PMet G M k mc ms As h Q X) (hQ : ∀ r h', Q r h' → Q' r h') (hX : ∀ C h', X C h' → X' C h') : PMet G M k mc ms As h Q' X' := by
  intro l d sz hl hd
  have h1 := H l d sz hl hd
  refine MetFree.mono h1 (fun _ _ z => z) (fun _ _ _ _ _ z => z) (fun a s o s' _ hq => ?_)
  rcases hq with ⟨⟨⟨r, h', e1, e2, e3⟩, e4⟩, hL⟩ | ⟨q, e1, C, ce, L, ⟨⟨h', e2, e3⟩, e4⟩, rest⟩
  · exact Or.inl ⟨⟨⟨r, h', e1, hQ _ _ e2, e3⟩, e4⟩, hL⟩
  · exact Or.inr ⟨q, e1, C, ce, L, ⟨⟨h', hX _ _ e2, e3⟩, e4⟩, rest⟩
/-- a contract out of a walk -/
theorem PMet.of {G : hG} {M : hMI} {k mc ms : Nat} {As : List Value} {h : hp} {Q : Option Value → hp → Prop} {X : String → hp → Prop} (hpl : plainName M.1.cls = true) (hL : (lg_sl As).length ≤ M.2.2.1)
    (H : ∀ d, k ≤ d → PW G M d noA (E0 G Q X) mc ms 0 (lv_args 0 As) [] h) : PMet G M k mc ms As h Q X := by
  intro l d sz hl hd
  have body : ∀ (p : Program) (e : Env) (s : State) (m : MethodId) (args : Array Value) (below : List Frame) (meth : Method) (c : Code) (s₁ : State), BodyLoose p l M.1 (headSpec (wsOf M) (rmOf d mc ms)) M.2.1 M.2.2.1 M.2.2.2.1 e s m args below meth c s₁ → c.maxLocals = M.2.2.1 → c.exceptionTable.toList = tableOf M.2.2.2.2 → va_Pc As (hPre G h sz) args s →
      W p l e (rmOf d mc ms) s m args below meth c s.heap [] 0 0 (vx_MQ below (hQc G Q (dm G h sz)) (hXc G X (dm G h sz)) args s mc ms (dm G h sz)) (entryFrame m args M.2.2.1) := by
    intro p e s m args below meth c s₁ B hml htab hv
    obtain ⟨rfl, hsz, hR, hS, hKk, hEe⟩ := hv
    have hts0 := atoms_spec (ws := wsOf M) B.pre
    have hts : ∀ w ∈ gws, w.before As.toArray s = true := fun w hw => hts0 w (List.mem_cons_of_mem _ hw)
    have hown : s.vm.findClass M.1.cls = some m.cls := findClass_of_methodNamed B.named
    have hnm : meth.name = M.1.name := (name_of_methodNamed B.named B.method).1
    rw [lg_entry_eq]
    exact H d hd p l e (rmOf d mc ms) s m As.toArray below meth c (dm G h sz) s.heap [] 0 0 _ mc ms
      ⟨B.exec, B.bytes, hml, hown, hts, B.returns, htab, hnm, B.notSynchronized, hl, ⟨Nat.le_refl _, Nat.le_refl _⟩, hKk, hEe, hS, fun q hq => Or.inr (by rw [← hsz]; exact hq), trivial⟩
      hR va_S.rf (lv_entry As hL) ⟨by omega, by omega, Nat.le_refl _, Nat.le_refl _⟩
  by_cases hh : M.2.2.2.2 = []
  · refine vx_ofW (cc := M.2.1) (maxL := M.2.2.1) (ret := M.2.2.2.1) (ws' := gws) hpl (by unfold wsOf; rw [if_pos hh]) ?_
    intro p e s m args below meth c s₁ B hml ht hv
    refine body p e s m args below meth c s₁ B hml ?_ hv
    rw [hh]
    cases hl : c.exceptionTable.toList with
    | nil => rfl
    | cons x xs => exact (ht x (by rw [hl]; exact List.mem_cons_self)).elim
  · refine vx_ofWH (cc := M.2.1) (maxL := M.2.2.1) (ret := M.2.2.2.1) (hh := M.2.2.2.2) (ws' := gws) hpl (by unfold wsOf; rw [if_neg hh]) ?_
    intro p e s m args below meth c s₁ B hml hv
    refine body p e s m args below meth c s₁ B hml ?_ hv
    have hts0 := atoms_spec (ws := wsOf M) B.pre
    have hw := hts0 _ (show Cond.codeWith M.1 M.2.1 M.2.2.1 M.2.2.2.1 M.2.2.2.2 ∈ wsOf M by unfold wsOf; rw [if_neg hh]; exact List.mem_cons_self)
    exact vx_table (x := M.1) B hw
