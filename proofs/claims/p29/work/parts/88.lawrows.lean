/-! the law: its script, its end -/
def R_law : String := "PackageForgeLaw"
def lw_P (b : Addr) (xs : List Int32) (args : Array Value) (s : State) : Prop := args = #[.ref b] ∧ s.IntsAt b xs ∧ xs.length ≤ 260 ∧ (Jvm.Cond.and given_1 narrow_1).before args s = true
/-- what a walk over the start with the record d0 says of its end, said of the start itself -/
theorem lw_closed {s t : State} {o : Outcome} {d0 : Drawn} {L : List Loc} {k n : Nat} (hd0 : s.drawn.sameBut d0 lw_cs) (hv : ∃ v, o = .returned v) (hW : (s.setDrawn d0).WarmedH t.vm) (hs : (s.setDrawn d0).sameButNew ({ t with vm := s.vm } : State) L k n) : State.butDraws s t lw_cs (fun t1 => Framed s o t1 L k n) := by
  have h2 : t.drawn = d0 := congrArg State.drawn hs.1
  refine ⟨⟨hv, hW, State.sameButNew.setDrawn hs s.drawn⟩, ?_, by decide⟩
  rw [h2]
  exact hd0
def lw_Q (_ : Array Value) (s : State) (o : Outcome) (t : State) : Prop := o = .returned (some (.int 1)) ∧ State.butDraws s t lw_cs (fun t1 => Framed s o t1 [] 696435 7004207)
def lw_Z (below : List Frame) (a : Array Value) (s : State) : State → Prop := fun t => ∃ o, t.status = .running ∧ Ended t below o ∧ lw_Q a s o t
def lw_Zg (k n : Nat) (below : List Frame) (a : Array Value) (s : State) : State → Prop := fun t => ∃ o, t.status = .running ∧ Ended t below o ∧ o = .returned (some (.int 1)) ∧ State.butDraws s t lw_cs (fun t1 => Framed s o t1 [] k n)
theorem lw_retG {p : Program} {l : Launch} {e : Env} {R : Room} {s : State} {m : MethodId} {below : List Frame} {meth : Method} {c : Code} {args : Array Value} {d0 : Drawn} {cells slots : Nat} (hd0 : s.drawn.sameBut d0 lw_cs) (hx : p.tables.exec = Jvm.exec) (hb : c.code = code) (hr : meth.sig.returnType = ret) (hlocks : meth.locks = false) {pc : Nat} {H : Heap} {ls : Array Slot} (hdg : decode code pc = .ok (.ireturn, 1)) : W p l e R (s.setDrawn d0) m args below meth c H [] cells slots (lw_Zg cells slots below args s) (F0 m pc ls [.int 1]) := by
  intro T hT X
  obtain ⟨fs, hret, hrun, hended, hW, hframe⟩ := X.leave (v := some (.int 1)) (hlocks := hlocks) (fun h => by rw [hr] at h; cases h)
  have hmeth' : T.vm.method? m = some meth := X.method'
  refine ⟨T.setFrames fs, ?_, .returned (some (.int 1)), hrun, hended, rfl, lw_closed hd0 ⟨_, rfl⟩ hW hframe⟩
  jvm_step X.here [X.here.top, hx, hb, hdg, hmeth', hr, ret, narrow_b1]
  (try refine ⟨rfl, ?_⟩); (try refine ⟨rfl, ?_⟩)
  first | (intro acts; rw [hret _ acts rfl rfl rfl]) | rw [hret _ _ rfl rfl rfl]
  exact Steps.refl _
abbrev ML_law : hMI := (yL_law, cL_law, 18, ret, [])
def EL : hEnd := fun below args s _ MC MS => lw_Zg MC MS below args s
section LAWR
variable {G : hG} {M : hMI} {d : Nat} {E : hEnd} {kc ks pc pc2 sc Ln : Nat} {xs : Nat → Int32} {L : List (Nat × Value)} {S : List Value} {h : hp}
theorem pw_lawret (hdg : decode code pc = .ok (.ireturn, 1)) : PW G ML_law d (psX sc Ln xs) EL kc ks pc L [.int 1] h := by
  intro p l e R s m args below meth c A H locs cells slots ls MC MS C0 hR hS hl hm
  obtain ⟨hx, hb, hml, hown, hts, hr, htab, hnm, hlocks, hst0, -, hKk, hEe, hSt0, hA, hPs⟩ := C0
  refine W.widen (k := MC) (n := MS) (by omega) (by omega) ?_
  refine va_forget (fun q hq => hPs.2.2 _ (hS.2.2 q hq)) ?_
  refine W.base ?_
  exact lw_retG (d0 := s.drawn) (Drawn.sameBut.refl s.drawn lw_cs) hx hb hr hlocks hdg
end LAWR
theorem nIa (a k : Nat) : nI a + nI k = nI (a + k) := (Int32.ofNat_add a k).symm
theorem lcmp_eq {x y : Int64} (e : x = y) : lg_cmp x y = 0 := by
  subst e
  unfold lg_cmp
  simp
