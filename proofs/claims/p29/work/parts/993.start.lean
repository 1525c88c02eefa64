/-! the start: classes, rows, statics -/
theorem hts_g {s : State} {args : Array Value} (hts : ∀ w ∈ lw_tbl, w.before args s = true) : ∀ w ∈ gws, w.before args s = true := fun w h => hts w (List.mem_filter.mp h).1
theorem start_K1 {s : State} {args : Array Value} (hts : ∀ w ∈ lw_tbl, w.before args s = true) : ∃ (D1 : Nat → ClassId) (D2 : Nat → Nat → Nat), ∀ (k : Nat) (q : vw_C), vwCl[k]? = some q → u_Kn s q.1 q.2.1 q.2.2 (D1 k) (D2 k) := by
  have hg := hts_g hts
  have key : ∀ (k : Nat) (q : vw_C), vwCl[k]? = some q → ∃ (cC : ClassId) (iS : Nat → Nat), u_Kn s q.1 q.2.1 q.2.2 cC iS := by
    intro k q hq
    match k, hq with
    | 0, hq => cases hq; exact u_known (C := RJ0) (T := TJ0) (N := 2) hg (by decide +kernel) (hg _ (gws_of 456 (by decide +kernel) rfl : Cond.instantiable RJ0 4 ∈ gws))
    | 1, hq => cases hq; exact u_known (C := RJx00060) (T := TJx00060) (N := 6) hg (by decide +kernel) (hg _ (gws_of 438 (by decide +kernel) rfl : Cond.instantiable RJx00060 6 ∈ gws))
    | 2, hq => cases hq; exact u_known (C := RJx4a65c) (T := TJx4a65c) (N := 3) hg kJx4a65c.2.1 (hg _ wi_Jx4a65c)
    | 3, hq => cases hq; exact u_known (C := RX0) (T := TX0) (N := 4) hg kX0.2.1 (hg _ wi_X0)
    | 4, hq => cases hq; exact u_known (C := RX1) (T := TX1) (N := 1) hg kX1.2.1 (hg _ wi_X1)
    | 5, hq => cases hq; exact u_known (C := RX2) (T := TX2) (N := 3) hg kX2.2.1 (hg _ wi_X2)
    | 6, hq => cases hq; exact u_known (C := RX3) (T := TX3) (N := 2) hg kX3.2.1 (hg _ wi_X3)
    | 7, hq => cases hq; exact u_known (C := RX4) (T := TX4) (N := 5) hg kX4.2.1 (hg _ wi_X4)
    | 8, hq => cases hq; exact u_known (C := RX5) (T := TX5) (N := 5) hg kX5.2.1 (hg _ wi_X5)
    | 9, hq => cases hq; exact u_known (C := RX6) (T := TX6) (N := 3) hg kX6.2.1 (hg _ wi_X6)
    | 10, hq => cases hq; exact u_known (C := RX7) (T := TX7) (N := 5) hg kX7.2.1 (hg _ wi_X7)
    | 11, hq => cases hq; exact u_known (C := RX8) (T := TX8) (N := 3) hg kX8.2.1 (hg _ wi_X8)
    | 12, hq => cases hq; exact u_known (C := RX9) (T := TX9) (N := 10) hg kX9.2.1 (hg _ wi_X9)
    | k + 13, hq => simp [vwCl] at hq
  have h2 : ∀ k : Nat, ∃ c : ClassId × (Nat → Nat), ∀ q, vwCl[k]? = some q → u_Kn s q.1 q.2.1 q.2.2 c.1 c.2 := fun k => by
    cases e : vwCl[k]? with
    | none => exact ⟨((0 : Nat), fun _ => 0), fun q hq => by cases hq⟩
    | some q =>
      obtain ⟨c, i, h⟩ := key k q e
      exact ⟨(c, i), fun q' hq => by cases hq; exact h⟩
  obtain ⟨D, hD⟩ := Classical.axiomOfChoice h2
  exact ⟨fun k => (D k).1, fun k => (D k).2, fun k q hq => hD k q hq⟩
theorem start_K2 {s : State} {args : Array Value} (hts : ∀ w ∈ lw_tbl, w.before args s = true) (hm : (Cond.isRef (.mirror "[Ljava/lang/Object;")).before args s = true) : ∃ F : FieldType → ClassId, (∀ t ∈ arrTys, ArrOfT s (F t) t ∧ va_RA s (F t) t) ∧ va_Mi "[Ljava/lang/Object;" (F (.array (.array (.array .int)))) s := by
  have hg := hts_g hts
  have prim : ∀ t : FieldType, t = .int ∨ t = .boolean ∨ t = .long ∨ t = .double → (Cond.arrayClass t).before args s = true → ∃ c, ArrOfT s c t ∧ va_RA s c t := by
    intro t ht h
    obtain ⟨cA, kA, comp, h1, h2, h3⟩ := Cond.arrayClass_spec h
    refine ⟨cA, fun N z => ⟨(fun k h => by cases h), kA, h2, comp, h3⟩, ?_⟩
    rcases ht with rfl | rfl | rfl | rfl <;> exact h1
  have obj : ∀ C, (Cond.arrayOver (.object C)).before args s = true → ∃ c, ArrOfT s c (.object C) ∧ va_RA s c (.object C) := by
    intro C h
    obtain ⟨comp, c, k, h1, -, h2, h3, h4⟩ := Cond.arrayOver_spec h
    exact ⟨c, fun N z => ⟨(fun k h => by cases h), k, h2, comp, h3⟩, k, comp, h2, h3, h1, h4⟩
  have arr : ∀ t : FieldType, (Cond.arrayOver (.array t)).before args s = true → ∃ c, ArrOfT s c (.array t) ∧ va_RA s c (.array t) := by
    intro t h
    obtain ⟨comp, c, k, h1, h2, h3, h4⟩ := Cond.arrayOver_specA h
    exact ⟨c, fun N z => ⟨(fun k h => by cases h), k, h2, comp, h3⟩, h4⟩
  obtain ⟨mi, hmi⟩ := va_Mi.of hm
  have h2 : ∀ t : FieldType, ∃ c : ClassId, (t ∈ arrTys → ArrOfT s c t ∧ va_RA s c t) ∧ (t = .array (.array (.array .int)) → va_Mi "[Ljava/lang/Object;" c s) := by
    intro t
    by_cases e : t = .array (.array (.array .int))
    · exact ⟨mi, fun h => absurd h (by rw [e]; decide), fun _ => hmi⟩
    · by_cases h : t ∈ arrTys
      · have hc : ∃ c, ArrOfT s c t ∧ va_RA s c t := by
          simp only [arrTys, List.mem_cons, List.not_mem_nil, or_false] at h
          rcases h with rfl | rfl | rfl | rfl | rfl | rfl | rfl | rfl
          · exact prim _ (Or.inl rfl) (hg _ wa_95)
          · exact prim _ (Or.inr (Or.inl rfl)) (hg _ wa_666)
          · exact prim _ (Or.inl rfl) (hg _ wa_95)
          · exact prim _ (Or.inl rfl) (hg _ wa_95)
          · exact obj _ (hts _ (List.mem_of_getElem? (l := lw_tbl) (i := 95) (by decide +kernel)))
          · exact obj _ (hts _ (List.mem_of_getElem? (l := lw_tbl) (i := 424) (by decide +kernel)))
          · exact arr _ (hts _ (List.mem_of_getElem? (l := lw_tbl) (i := 977) (by decide +kernel)))
          · exact arr _ (hts _ (List.mem_of_getElem? (l := lw_tbl) (i := 977) (by decide +kernel)))
        obtain ⟨c, hc⟩ := hc
        exact ⟨c, fun _ => hc, fun z => absurd z e⟩
      · exact ⟨(0 : Nat), fun z => absurd z h, fun z => absurd z e⟩
  obtain ⟨F, hF⟩ := Classical.axiomOfChoice h2
  exact ⟨F, fun t ht => (hF t).1 ht, (hF _).2 rfl⟩
theorem start_env {s : State} {args : Array Value} (hts : ∀ w ∈ lw_tbl, w.before args s = true) (hs : ∀ q ∈ ncs, (Cond.not (.castable q.1 q.2)).before args s = true) : hEnv s := by
  refine ⟨fun w hw => ?_, fun own k tx h => ?_, ⟨va_AO.of (hts _ (List.mem_of_getElem? (l := lw_tbl) (i := 95) (by decide +kernel))), va_AO.of (hts _ (List.mem_of_getElem? (l := lw_tbl) (i := 424) (by decide +kernel))), va_AOA.of (hts _ (List.mem_of_getElem? (l := lw_tbl) (i := 977) (by decide +kernel))), va_AOA.of (hts _ (List.mem_of_getElem? (l := lw_tbl) (i := 977) (by decide +kernel)))⟩, fun q hq => va_Nc.of (hs q hq)⟩
  · obtain ⟨h1, h2⟩ := List.mem_filter.mp hw
    refine va_Nw.of ?_ (hts w h1)
    cases w with
    | fieldLinkNest => rfl
    | methodLinkNest => rfl
    | castable => rfl
    | declares => rfl
    | _ => cases h2
  · have hb := hts _ h
    cases hc : s.vm.findClass own with
    | none => simp [Cond.before, Cond.holds, Cond.value, hc] at hb
    | some cur =>
      obtain ⟨k9, cf, i, a, -, -, -, -, -, he⟩ := Cond.stringRef_spec hc hb
      exact ⟨a, vk_R.of hb he⟩
theorem start_st {s : State} {args : Array Value} (hts : ∀ w ∈ lw_tbl, w.before args s = true) (g3 : (Cond.exactly (.static "java/util/ArrayList" "DEFAULTCAPACITY_EMPTY_ELEMENTDATA" "[Ljava/lang/Object;") "[Ljava/lang/Object;").before args s = true) (g4 : (Cond.eq (.length (.static "java/util/ArrayList" "DEFAULTCAPACITY_EMPTY_ELEMENTDATA" "[Ljava/lang/Object;")) (.int 0)).before args s = true) {F : FieldType → ClassId} (hF : va_RA s (F tObj) tObj) : ∃ e : Nat, va_Z "java/util/ArrayList" "DEFAULTCAPACITY_EMPTY_ELEMENTDATA" "[Ljava/lang/Object;" (.ref e) (fun q => s.heap.size ≤ q) s s.heap ∧ ∃ cell : Cell, s.heap[e]? = some cell ∧ cell.cls = F tObj ∧ Int32.ofNat cell.slots.size = 0 ∧ ∀ k, cell.vm ≠ .statics k := by
  obtain ⟨a, c, cell, k, h1, h2, h3, h4, h5, h6, -⟩ := Cond.exactly_spec g3
  obtain ⟨kA, comp, -, -, -, hf⟩ := hF
  have es : ("[" ++ (FieldType.object "java/lang/Object").toString) = "[Ljava/lang/Object;" := by decide
  rw [es] at hf
  have ec : c = F tObj := Option.some.inj (h2.symm.trans hf)
  refine ⟨a, va_Zref (hts _ (List.mem_of_getElem? (l := lw_tbl) (i := 69) (by decide +kernel))) (hts _ (List.mem_of_getElem? (l := lw_tbl) (i := 19) (by decide +kernel))) h1 (fun q hq z => absurd z (Nat.not_le.mpr hq)), cell, h3, h6.trans ec, ?_, fun k z => by rw [z] at h5; cases h5⟩
  cases hl : (Term.length (.static "java/util/ArrayList" "DEFAULTCAPACITY_EMPTY_ELEMENTDATA" "[Ljava/lang/Object;")).eval args s none [] s with
  | none => simp [Cond.before, Cond.holds, Cond.value, hl] at g4
  | some v =>
    obtain ⟨a2, cell2, e1, e2, rfl⟩ := Term.length_spec hl
    have ea : a2 = a := by
      have := e1.symm.trans h1
      cases this
      rfl
    subst ea
    have ecl : cell2 = cell := Option.some.inj ((State.arrayAt?_spec e2).1.symm.trans h3)
    subst ecl
    have hz := Cond.eq_ints (b := .int 0) (y := 0) hl rfl
    have g5 : (Cond.eq (.length (.static "java/util/ArrayList" "DEFAULTCAPACITY_EMPTY_ELEMENTDATA" "[Ljava/lang/Object;")) (.int 0)).holds args s none s [] = true := g4
    unfold Cond.holds at g5
    rw [hz] at g5
    have g6 : decide (cell2.slots.size.toInt32 = 0) = true := by simpa using g5
    exact of_decide_eq_true g6
