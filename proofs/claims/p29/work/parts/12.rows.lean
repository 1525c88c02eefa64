/-! a row an instruction, over the pure heap (made by a program of ours) -/
section PWR
variable {G : hG} {M : hMI} {d : Nat} {Ps : hAmb} {E : hEnd} {kc ks pc pc2 tgt : Nat} {L : List (Nat × Value)} {S S2 : List Value} {h : hp}
theorem pw_lift (f : ∀ {p : Program} {l : Launch} {e : Env} {R : Room} {s : State} {m : MethodId} {args : Array Value} {below : List Frame} {meth : Method} {c : Code} {H : Heap} {locs : List Loc} {cells slots : Nat} {Q : State → Prop} {ls : Array Slot}, p.tables.exec = Jvm.exec → c.code = M.2.1 → lv_has ls M.2.2.1 L → W p l e R s m args below meth c H locs cells slots Q (F0 m pc2 ls S2) → W p l e R s m args below meth c H locs cells slots Q (F0 m pc ls S)) (k : PW G M d Ps E kc ks pc2 L S2 h) : PW G M d Ps E kc ks pc L S h := by
  intro p l e R s m args below meth c A H locs cells slots ls MC MS C hR hS hl hm
  exact f C.1 C.2.1 hl (k p l e R s m args below meth c A H locs cells slots ls MC MS C hR hS hl hm)
theorem pw_liftL {L2 : List (Nat × Value)} (f : ∀ {p : Program} {l : Launch} {e : Env} {R : Room} {s : State} {m : MethodId} {args : Array Value} {below : List Frame} {meth : Method} {c : Code} {H : Heap} {locs : List Loc} {cells slots : Nat} {Q : State → Prop} {ls : Array Slot}, p.tables.exec = Jvm.exec → c.code = M.2.1 → lv_has ls M.2.2.1 L → (∀ ls' : Array Slot, lv_has ls' M.2.2.1 L2 → W p l e R s m args below meth c H locs cells slots Q (F0 m pc2 ls' S2)) → W p l e R s m args below meth c H locs cells slots Q (F0 m pc ls S)) (k : PW G M d Ps E kc ks pc2 L2 S2 h) : PW G M d Ps E kc ks pc L S h := by
  intro p l e R s m args below meth c A H locs cells slots ls MC MS C hR hS hl hm
  exact f C.1 C.2.1 hl (fun ls' hl' => k p l e R s m args below meth c A H locs cells slots ls' MC MS C hR hS hl' hm)
theorem pw_lift2 {pc3 : Nat} {S3 : List Value} {a b : Prop} (f : ∀ {p : Program} {l : Launch} {e : Env} {R : Room} {s : State} {m : MethodId} {args : Array Value} {below : List Frame} {meth : Method} {c : Code} {H : Heap} {locs : List Loc} {cells slots : Nat} {Q : State → Prop} {ls : Array Slot}, p.tables.exec = Jvm.exec → c.code = M.2.1 → (a → W p l e R s m args below meth c H locs cells slots Q (F0 m pc2 ls S2)) → (b → W p l e R s m args below meth c H locs cells slots Q (F0 m pc3 ls S3)) → W p l e R s m args below meth c H locs cells slots Q (F0 m pc ls S)) (k1 : a → PW G M d Ps E kc ks pc2 L S2 h) (k2 : b → PW G M d Ps E kc ks pc3 L S3 h) : PW G M d Ps E kc ks pc L S h := by
  intro p l e R s m args below meth c A H locs cells slots ls MC MS C hR hS hl hm
  exact f C.1 C.2.1 (fun q => k1 q p l e R s m args below meth c A H locs cells slots ls MC MS C hR hS hl hm) (fun q => k2 q p l e R s m args below meth c A H locs cells slots ls MC MS C hR hS hl hm)
theorem pw_iadd {x y : Int32} (hdg : decode M.2.1 pc = .ok (.iadd, 1)) (hp : pc + 1 = pc2)  (k : PW G M d Ps E kc ks pc2 L (.int (x + y) :: S) h) : PW G M d Ps E kc ks pc L (.int y :: .int x :: S) h := by
  subst hp
  exact pw_lift (fun hx hb hl kk => lv_iadd hx hb hdg kk) k
theorem pw_isub {x y : Int32} (hdg : decode M.2.1 pc = .ok (.isub, 1)) (hp : pc + 1 = pc2)  (k : PW G M d Ps E kc ks pc2 L (.int (x - y) :: S) h) : PW G M d Ps E kc ks pc L (.int y :: .int x :: S) h := by
  subst hp
  exact pw_lift (fun hx hb hl kk => lv_isub hx hb hdg kk) k
theorem pw_imul {x y : Int32} (hdg : decode M.2.1 pc = .ok (.imul, 1)) (hp : pc + 1 = pc2)  (k : PW G M d Ps E kc ks pc2 L (.int (x * y) :: S) h) : PW G M d Ps E kc ks pc L (.int y :: .int x :: S) h := by
  subst hp
  exact pw_lift (fun hx hb hl kk => lv_imul hx hb hdg kk) k
theorem pw_iand {x y : Int32} (hdg : decode M.2.1 pc = .ok (.iand, 1)) (hp : pc + 1 = pc2)  (k : PW G M d Ps E kc ks pc2 L (.int (x &&& y) :: S) h) : PW G M d Ps E kc ks pc L (.int y :: .int x :: S) h := by
  subst hp
  exact pw_lift (fun hx hb hl kk => lv_iand hx hb hdg kk) k
theorem pw_ior {x y : Int32} (hdg : decode M.2.1 pc = .ok (.ior, 1)) (hp : pc + 1 = pc2)  (k : PW G M d Ps E kc ks pc2 L (.int (x ||| y) :: S) h) : PW G M d Ps E kc ks pc L (.int y :: .int x :: S) h := by
  subst hp
  exact pw_lift (fun hx hb hl kk => lv_ior hx hb hdg kk) k
theorem pw_idiv {x y : Int32} (hdg : decode M.2.1 pc = .ok (.idiv, 1)) (hp : pc + 1 = pc2) (hne : ¬ y = 0) (k : PW G M d Ps E kc ks pc2 L (.int (x / y) :: S) h) : PW G M d Ps E kc ks pc L (.int y :: .int x :: S) h := by
  subst hp
  exact pw_lift (fun hx hb hl kk => lv_idiv hx hb hdg hne kk) k
theorem pw_ishl {x y : Int32} (hdg : decode M.2.1 pc = .ok (.ishl, 1)) (hp : pc + 1 = pc2)  (k : PW G M d Ps E kc ks pc2 L (.int (x <<< (y &&& 31)) :: S) h) : PW G M d Ps E kc ks pc L (.int y :: .int x :: S) h := by
  subst hp
  exact pw_lift (fun hx hb hl kk => lv_ishl hx hb hdg kk) k
theorem pw_ishr {x y : Int32} (hdg : decode M.2.1 pc = .ok (.ishr, 1)) (hp : pc + 1 = pc2)  (k : PW G M d Ps E kc ks pc2 L (.int (x >>> (y &&& 31)) :: S) h) : PW G M d Ps E kc ks pc L (.int y :: .int x :: S) h := by
  subst hp
  exact pw_lift (fun hx hb hl kk => lv_ishr hx hb hdg kk) k
theorem pw_iushr {x y v : Int32} (hdg : decode M.2.1 pc = .ok (.iushr, 1)) (hp : pc + 1 = pc2) (hv : (x.toUInt32 >>> (y.toUInt32 &&& Int32.toUInt32 31)).toInt32 = v) (k : PW G M d Ps E kc ks pc2 L (.int v :: S) h) : PW G M d Ps E kc ks pc L (.int y :: .int x :: S) h := by
  subst hp
  exact pw_lift (fun hx hb hl kk => lv_iushr hx hb hdg hv kk) k
theorem pw_iconst {n : Int} {v : Int32} (hdg : decode M.2.1 pc = .ok (.iconst n, 1)) (hp : pc + 1 = pc2) (hv : Int32.ofInt n = v) (k : PW G M d Ps E kc ks pc2 L (.int v :: S) h) : PW G M d Ps E kc ks pc L S h := by
  subst hp
  exact pw_lift (fun hx hb hl kk => lv_iconst hx hb hdg hv kk) k
theorem pw_bipush {n : Int} {v : Int32} (hdg : decode M.2.1 pc = .ok (.bipush n, 2)) (hp : pc + 2 = pc2) (hv : (Int8.ofInt n).toInt32 = v) (k : PW G M d Ps E kc ks pc2 L (.int v :: S) h) : PW G M d Ps E kc ks pc L S h := by
  subst hp
  exact pw_lift (fun hx hb hl kk => lv_bipush hx hb hdg hv kk) k
theorem pw_sipush {n : Int} {v : Int32} (hdg : decode M.2.1 pc = .ok (.sipush n, 3)) (hp : pc + 3 = pc2) (hv : (Int16.ofInt n).toInt32 = v) (k : PW G M d Ps E kc ks pc2 L (.int v :: S) h) : PW G M d Ps E kc ks pc L S h := by
  subst hp
  exact pw_lift (fun hx hb hl kk => lv_sipush hx hb hdg hv kk) k
theorem pw_lconst {n : Fin 2} {v : Int64} (hdg : decode M.2.1 pc = .ok (.lconst n, 1)) (hp : pc + 1 = pc2) (hv : Int64.ofNat (n : Nat) = v) (k : PW G M d Ps E kc ks pc2 L (.long v :: S) h) : PW G M d Ps E kc ks pc L S h := by
  subst hp
  exact pw_lift (fun hx hb hl kk => lv_lconst hx hb hdg hv kk) k
theorem pw_fconst0  (hdg : decode M.2.1 pc = .ok (.fconst 0, 1)) (hp : pc + 1 = pc2)  (k : PW G M d Ps E kc ks pc2 L (.float FP.fconst0 :: S) h) : PW G M d Ps E kc ks pc L S h := by
  subst hp
  exact pw_lift (fun hx hb hl kk => lv_fconst0 hx hb hdg kk) k
theorem pw_dconst0  (hdg : decode M.2.1 pc = .ok (.dconst 0, 1)) (hp : pc + 1 = pc2)  (k : PW G M d Ps E kc ks pc2 L (.double FP.dconst0 :: S) h) : PW G M d Ps E kc ks pc L S h := by
  subst hp
  exact pw_lift (fun hx hb hl kk => lv_dconst0 hx hb hdg kk) k
theorem pw_null  (hdg : decode M.2.1 pc = .ok (.aconst_null, 1)) (hp : pc + 1 = pc2)  (k : PW G M d Ps E kc ks pc2 L (.null :: S) h) : PW G M d Ps E kc ks pc L S h := by
  subst hp
  exact pw_lift (fun hx hb hl kk => lv_null hx hb hdg kk) k
theorem pw_dup {v : Value} (hdg : decode M.2.1 pc = .ok (.dup, 1)) (hp : pc + 1 = pc2) (hv : v.category = 1) (k : PW G M d Ps E kc ks pc2 L (v :: v :: S) h) : PW G M d Ps E kc ks pc L (v :: S) h := by
  subst hp
  exact pw_lift (fun hx hb hl kk => lv_dup hx hb hdg hv kk) k
theorem pw_pop {v : Value} (hdg : decode M.2.1 pc = .ok (.pop, 1)) (hp : pc + 1 = pc2) (hv : v.category = 1) (k : PW G M d Ps E kc ks pc2 L S h) : PW G M d Ps E kc ks pc L (v :: S) h := by
  subst hp
  exact pw_lift (fun hx hb hl kk => lv_pop hx hb hdg hv kk) k
theorem pw_dup_x1 {v w : Value} (hdg : decode M.2.1 pc = .ok (.dup_x1, 1)) (hp : pc + 1 = pc2) (hv : v.category = 1) (hw : w.category = 1) (k : PW G M d Ps E kc ks pc2 L (v :: w :: v :: S) h) : PW G M d Ps E kc ks pc L (v :: w :: S) h := by
  subst hp
  exact pw_lift (fun hx hb hl kk => lv_dup_x1 hx hb hdg hv hw kk) k
theorem pw_dup2 {v w : Value} (hdg : decode M.2.1 pc = .ok (.dup2, 1)) (hp : pc + 1 = pc2) (hv : v.category = 1) (hw : w.category = 1) (k : PW G M d Ps E kc ks pc2 L (v :: w :: v :: w :: S) h) : PW G M d Ps E kc ks pc L (v :: w :: S) h := by
  subst hp
  exact pw_lift (fun hx hb hl kk => lv_dup2_11 hx hb hdg hv hw kk) k
theorem pw_i2l {x : Int32} (hdg : decode M.2.1 pc = .ok (.i2l, 1)) (hp : pc + 1 = pc2)  (k : PW G M d Ps E kc ks pc2 L (.long x.toInt64 :: S) h) : PW G M d Ps E kc ks pc L (.int x :: S) h := by
  subst hp
  exact pw_lift (fun hx hb hl kk => lv_i2l hx hb hdg rfl kk) k
theorem pw_i2f {x : Int32} (hdg : decode M.2.1 pc = .ok (.i2f, 1)) (hp : pc + 1 = pc2)  (k : PW G M d Ps E kc ks pc2 L (.float (FP.i2f x) :: S) h) : PW G M d Ps E kc ks pc L (.int x :: S) h := by
  subst hp
  exact pw_lift (fun hx hb hl kk => lv_i2f hx hb hdg kk) k
theorem pw_i2d {x : Int32} (hdg : decode M.2.1 pc = .ok (.i2d, 1)) (hp : pc + 1 = pc2)  (k : PW G M d Ps E kc ks pc2 L (.double (FP.i2d x) :: S) h) : PW G M d Ps E kc ks pc L (.int x :: S) h := by
  subst hp
  exact pw_lift (fun hx hb hl kk => lv_i2d hx hb hdg kk) k
theorem pw_f2d {x : UInt32} (hdg : decode M.2.1 pc = .ok (.f2d, 1)) (hp : pc + 1 = pc2) (hne : vf_n64 (FP.f2d x)) (k : PW G M d Ps E kc ks pc2 L (.double (FP.f2d x) :: S) h) : PW G M d Ps E kc ks pc L (.float x :: S) h := by
  subst hp
  exact pw_lift (fun hx hb hl kk => lv_f2d hx hb hdg hne kk) k
theorem pw_fdiv {x y : UInt32} (hdg : decode M.2.1 pc = .ok (.fdiv, 1)) (hp : pc + 1 = pc2) (hne : vf_n32 (FP.fdiv x y)) (k : PW G M d Ps E kc ks pc2 L (.float (FP.fdiv x y) :: S) h) : PW G M d Ps E kc ks pc L (.float y :: .float x :: S) h := by
  subst hp
  exact pw_lift (fun hx hb hl kk => lv_fdiv hx hb hdg hne kk) k
theorem pw_ddiv {x y : UInt64} (hdg : decode M.2.1 pc = .ok (.ddiv, 1)) (hp : pc + 1 = pc2) (hne : vf_n64 (FP.ddiv x y)) (k : PW G M d Ps E kc ks pc2 L (.double (FP.ddiv x y) :: S) h) : PW G M d Ps E kc ks pc L (.double y :: .double x :: S) h := by
  subst hp
  exact pw_lift (fun hx hb hl kk => lv_ddiv hx hb hdg hne kk) k
theorem pw_dcmp {x y : UInt64} {op : CmpOp} (hdg : decode M.2.1 pc = .ok (.dcmp op, 1)) (hp : pc + 1 = pc2)  (k : PW G M d Ps E kc ks pc2 L (.int (Op.cmpValue (FP.dcmp x y) op) :: S) h) : PW G M d Ps E kc ks pc L (.double y :: .double x :: S) h := by
  subst hp
  exact pw_lift (fun hx hb hl kk => lv_dcmp hx hb hdg kk) k
theorem pw_fcmp {x y : UInt32} {op : CmpOp} (hdg : decode M.2.1 pc = .ok (.fcmp op, 1)) (hp : pc + 1 = pc2)  (k : PW G M d Ps E kc ks pc2 L (.int (Op.cmpValue (FP.fcmp x y) op) :: S) h) : PW G M d Ps E kc ks pc L (.float y :: .float x :: S) h := by
  subst hp
  exact pw_lift (fun hx hb hl kk => lv_fcmp hx hb hdg kk) k
theorem pw_lcmp {x y : Int64} (hdg : decode M.2.1 pc = .ok (.lcmp, 1)) (hp : pc + 1 = pc2)  (k : PW G M d Ps E kc ks pc2 L (.int (lg_cmp x y) :: S) h) : PW G M d Ps E kc ks pc L (.long y :: .long x :: S) h := by
  subst hp
  exact pw_lift (fun hx hb hl kk => W.lcmp hx hb hdg kk) k
theorem pw_iload_n {k : Fin 4} {i : Nat} {x : Int32} (hdg : decode M.2.1 pc = .ok (.iload_n k, 1)) (hp : pc + 1 = pc2) (hi : (k : Nat) = i) (j : Nat) (hj : L[j]? = some (i, .int x)) (k : PW G M d Ps E kc ks pc2 L (.int x :: S) h) : PW G M d Ps E kc ks pc L S h := by
  subst hp
  exact pw_lift (fun hx hb hl kk => lv_iload_n hx hb hdg hi (lv_at hl j hj) kk) k
theorem pw_iload {i : Nat} {x : Int32} (hdg : decode M.2.1 pc = .ok (.iload i, 2)) (hp : pc + 2 = pc2) (j : Nat) (hj : L[j]? = some (i, .int x)) (k : PW G M d Ps E kc ks pc2 L (.int x :: S) h) : PW G M d Ps E kc ks pc L S h := by
  subst hp
  exact pw_lift (fun hx hb hl kk => lv_iload hx hb hdg (lv_at hl j hj) kk) k
theorem pw_fload_n {k : Fin 4} {i : Nat} {x : UInt32} (hdg : decode M.2.1 pc = .ok (.fload_n k, 1)) (hp : pc + 1 = pc2) (hi : (k : Nat) = i) (j : Nat) (hj : L[j]? = some (i, .float x)) (k : PW G M d Ps E kc ks pc2 L (.float x :: S) h) : PW G M d Ps E kc ks pc L S h := by
  subst hp
  exact pw_lift (fun hx hb hl kk => lv_fload_n hx hb hdg hi (lv_at hl j hj) kk) k
theorem pw_fload {i : Nat} {x : UInt32} (hdg : decode M.2.1 pc = .ok (.fload i, 2)) (hp : pc + 2 = pc2) (j : Nat) (hj : L[j]? = some (i, .float x)) (k : PW G M d Ps E kc ks pc2 L (.float x :: S) h) : PW G M d Ps E kc ks pc L S h := by
  subst hp
  exact pw_lift (fun hx hb hl kk => lv_fload hx hb hdg (lv_at hl j hj) kk) k
theorem pw_dload_n {k : Fin 4} {i : Nat} {x : UInt64} (hdg : decode M.2.1 pc = .ok (.dload_n k, 1)) (hp : pc + 1 = pc2) (hi : (k : Nat) = i) (j : Nat) (hj : L[j]? = some (i, .double x)) (k : PW G M d Ps E kc ks pc2 L (.double x :: S) h) : PW G M d Ps E kc ks pc L S h := by
  subst hp
  exact pw_lift (fun hx hb hl kk => lv_dload_n hx hb hdg hi (lv_at hl j hj) kk) k
theorem pw_dload {i : Nat} {x : UInt64} (hdg : decode M.2.1 pc = .ok (.dload i, 2)) (hp : pc + 2 = pc2) (j : Nat) (hj : L[j]? = some (i, .double x)) (k : PW G M d Ps E kc ks pc2 L (.double x :: S) h) : PW G M d Ps E kc ks pc L S h := by
  subst hp
  exact pw_lift (fun hx hb hl kk => lv_dload hx hb hdg (lv_at hl j hj) kk) k
def isRf (v : Value) : Prop := v = .null ∨ ∃ a : Nat, v = .ref a
theorem rf_ref (a : Nat) : isRf (.ref a) := Or.inr ⟨a, rfl⟩
theorem rf_nul : isRf .null := Or.inl rfl
theorem rf_opt (r : Option Nat) : isRf (va_rf r) := by cases r with | none => exact Or.inl rfl | some a => exact Or.inr ⟨a, rfl⟩
theorem pw_aload_n {k : Fin 4} {i : Nat} {v : Value} (hdg : decode M.2.1 pc = .ok (.aload_n k, 1)) (hp : pc + 1 = pc2) (hi : (k : Nat) = i) (j : Nat) (hj : L[j]? = some (i, v)) (hv : isRf v) (k : PW G M d Ps E kc ks pc2 L (v :: S) h) : PW G M d Ps E kc ks pc L S h := by
  subst hp
  rcases hv with rfl | ⟨a, rfl⟩
  · exact pw_lift (fun hx hb hl kk => lv_aload_nN hx hb hdg hi (lv_at hl j hj) kk) k
  · exact pw_lift (fun hx hb hl kk => lv_aload_n hx hb hdg hi (lv_at hl j hj) kk) k
theorem pw_aload {i : Nat} {v : Value} (hdg : decode M.2.1 pc = .ok (.aload i, 2)) (hp : pc + 2 = pc2) (j : Nat) (hj : L[j]? = some (i, v)) (hv : isRf v) (k : PW G M d Ps E kc ks pc2 L (v :: S) h) : PW G M d Ps E kc ks pc L S h := by
  subst hp
  rcases hv with rfl | ⟨a, rfl⟩
  · exact pw_lift (fun hx hb hl kk => lv_aloadN hx hb hdg (lv_at hl j hj) kk) k
  · exact pw_lift (fun hx hb hl kk => lv_aload hx hb hdg (lv_at hl j hj) kk) k
theorem pw_istore_n {k : Fin 4} {i : Nat} {x : Int32} {L2 : List (Nat × Value)} (hdg : decode M.2.1 pc = .ok (.istore_n k, 1)) (hp : pc + 1 = pc2) (hi : (k : Nat) = i) (hn : i < M.2.2.1) (hl2 : (i, Value.int x) :: L.filter (fun q => !(q.1 == i) && !(q.1 + 1 == i && q.2.category == 2)) = L2) (k : PW G M d Ps E kc ks pc2 L2 S h) : PW G M d Ps E kc ks pc L (.int x :: S) h := by
  subst hp
  exact pw_liftL (fun hx hb hl kk => lv_istore_n hx hb hdg hi hl hn hl2 kk) k
theorem pw_istore {i : Nat} {x : Int32} {L2 : List (Nat × Value)} (hdg : decode M.2.1 pc = .ok (.istore i, 2)) (hp : pc + 2 = pc2) (hn : i < M.2.2.1) (hl2 : (i, Value.int x) :: L.filter (fun q => !(q.1 == i) && !(q.1 + 1 == i && q.2.category == 2)) = L2) (k : PW G M d Ps E kc ks pc2 L2 S h) : PW G M d Ps E kc ks pc L (.int x :: S) h := by
  subst hp
  exact pw_liftL (fun hx hb hl kk => lv_istore hx hb hdg hl hn hl2 kk) k
theorem pw_fstore {i : Nat} {x : UInt32} {L2 : List (Nat × Value)} (hdg : decode M.2.1 pc = .ok (.fstore i, 2)) (hp : pc + 2 = pc2) (hn : i < M.2.2.1) (hl2 : (i, Value.float x) :: L.filter (fun q => !(q.1 == i) && !(q.1 + 1 == i && q.2.category == 2)) = L2) (k : PW G M d Ps E kc ks pc2 L2 S h) : PW G M d Ps E kc ks pc L (.float x :: S) h := by
  subst hp
  exact pw_liftL (fun hx hb hl kk => lv_fstore hx hb hdg hl hn hl2 kk) k
theorem pw_dstore {i : Nat} {x : UInt64} {L2 : List (Nat × Value)} (hdg : decode M.2.1 pc = .ok (.dstore i, 2)) (hp : pc + 2 = pc2) (hn : i + 1 < M.2.2.1) (hl2 : (i, Value.double x) :: L.filter (fun q => !(q.1 == i) && (!(q.1 == i + 1) && !(q.1 + 1 == i && q.2.category == 2))) = L2) (k : PW G M d Ps E kc ks pc2 L2 S h) : PW G M d Ps E kc ks pc L (.double x :: S) h := by
  subst hp
  exact pw_liftL (fun hx hb hl kk => lv_dstore hx hb hdg hl hn hl2 kk) k
theorem pw_astore_n {k : Fin 4} {i : Nat} {v : Value} {L2 : List (Nat × Value)} (hdg : decode M.2.1 pc = .ok (.astore_n k, 1)) (hp : pc + 1 = pc2) (hi : (k : Nat) = i) (hn : i < M.2.2.1) (hv : isRf v) (hl2 : (i, v) :: L.filter (fun q => !(q.1 == i) && !(q.1 + 1 == i && q.2.category == 2)) = L2) (k : PW G M d Ps E kc ks pc2 L2 S h) : PW G M d Ps E kc ks pc L (v :: S) h := by
  subst hp
  rcases hv with rfl | ⟨a, rfl⟩
  · exact pw_liftL (fun hx hb hl kk => lv_astore_nN hx hb hdg hi hl hn hl2 kk) k
  · exact pw_liftL (fun hx hb hl kk => lv_astore_n hx hb hdg hi hl hn hl2 kk) k
theorem pw_astore {i : Nat} {v : Value} {L2 : List (Nat × Value)} (hdg : decode M.2.1 pc = .ok (.astore i, 2)) (hp : pc + 2 = pc2) (hn : i < M.2.2.1) (hv : isRf v) (hl2 : (i, v) :: L.filter (fun q => !(q.1 == i) && !(q.1 + 1 == i && q.2.category == 2)) = L2) (k : PW G M d Ps E kc ks pc2 L2 S h) : PW G M d Ps E kc ks pc L (v :: S) h := by
  subst hp
  rcases hv with rfl | ⟨a, rfl⟩
  · exact pw_liftL (fun hx hb hl kk => lv_astoreN hx hb hdg hl hn hl2 kk) k
  · exact pw_liftL (fun hx hb hl kk => lv_astore hx hb hdg hl hn hl2 kk) k
theorem pw_iinc {i : Nat} {n : Int} {x v : Int32} {L2 : List (Nat × Value)} (hdg : decode M.2.1 pc = .ok (.iinc i n, 3)) (hp : pc + 3 = pc2) (j : Nat) (hj : L[j]? = some (i, .int x)) (hv : x + Int32.ofInt n = v) (hn : i < M.2.2.1) (hl2 : (i, Value.int v) :: L.filter (fun q => !(q.1 == i) && !(q.1 + 1 == i && q.2.category == 2)) = L2) (k : PW G M d Ps E kc ks pc2 L2 S h) : PW G M d Ps E kc ks pc L S h := by
  subst hp
  exact pw_liftL (fun hx hb hl kk => lv_iinc hx hb hdg hl hj hv hn hl2 kk) k
theorem pw_goto {off : Int} (hdg : decode M.2.1 pc = .ok (.goto off, 3)) (ht : (pc : Int) + off = (tgt : Int)) (k : PW G M d Ps E kc ks tgt L S h) : PW G M d Ps E kc ks pc L S h := pw_lift (fun hx hb hl kk => lv_goto hx hb hdg ht kk) k

theorem pw_if_eq {x : Int32} {off : Int} (hdg : decode M.2.1 pc = .ok (.ifCond .eq off, 3)) (ht : (pc : Int) + off = (tgt : Int)) (hp : pc + 3 = pc2) (kt : x = 0 → PW G M d Ps E kc ks tgt L S h) (kf : ¬ x = 0 → PW G M d Ps E kc ks pc2 L S h) : PW G M d Ps E kc ks pc L (.int x :: S) h := by
  subst hp
  exact pw_lift2 (fun hx hb k1 k2 => lv_if_eq hx hb hdg ht k1 k2) kt kf
theorem pw_icmp_eq {x y : Int32} {off : Int} (hdg : decode M.2.1 pc = .ok (.if_icmp .eq off, 3)) (ht : (pc : Int) + off = (tgt : Int)) (hp : pc + 3 = pc2) (kt : x = y → PW G M d Ps E kc ks tgt L S h) (kf : ¬ x = y → PW G M d Ps E kc ks pc2 L S h) : PW G M d Ps E kc ks pc L (.int y :: .int x :: S) h := by
  subst hp
  exact pw_lift2 (fun hx hb k1 k2 => lv_icmp_eq hx hb hdg ht k1 k2) kt kf
theorem pw_if_ne {x : Int32} {off : Int} (hdg : decode M.2.1 pc = .ok (.ifCond .ne off, 3)) (ht : (pc : Int) + off = (tgt : Int)) (hp : pc + 3 = pc2) (kt : ¬ x = 0 → PW G M d Ps E kc ks tgt L S h) (kf : x = 0 → PW G M d Ps E kc ks pc2 L S h) : PW G M d Ps E kc ks pc L (.int x :: S) h := by
  subst hp
  exact pw_lift2 (fun hx hb k1 k2 => lv_if_ne hx hb hdg ht k1 k2) kt kf
theorem pw_icmp_ne {x y : Int32} {off : Int} (hdg : decode M.2.1 pc = .ok (.if_icmp .ne off, 3)) (ht : (pc : Int) + off = (tgt : Int)) (hp : pc + 3 = pc2) (kt : ¬ x = y → PW G M d Ps E kc ks tgt L S h) (kf : x = y → PW G M d Ps E kc ks pc2 L S h) : PW G M d Ps E kc ks pc L (.int y :: .int x :: S) h := by
  subst hp
  exact pw_lift2 (fun hx hb k1 k2 => lv_icmp_ne hx hb hdg ht k1 k2) kt kf
theorem pw_if_lt {x : Int32} {off : Int} (hdg : decode M.2.1 pc = .ok (.ifCond .lt off, 3)) (ht : (pc : Int) + off = (tgt : Int)) (hp : pc + 3 = pc2) (kt : x < 0 → PW G M d Ps E kc ks tgt L S h) (kf : ¬ x < 0 → PW G M d Ps E kc ks pc2 L S h) : PW G M d Ps E kc ks pc L (.int x :: S) h := by
  subst hp
  exact pw_lift2 (fun hx hb k1 k2 => lv_if_lt hx hb hdg ht k1 k2) kt kf
theorem pw_icmp_lt {x y : Int32} {off : Int} (hdg : decode M.2.1 pc = .ok (.if_icmp .lt off, 3)) (ht : (pc : Int) + off = (tgt : Int)) (hp : pc + 3 = pc2) (kt : x < y → PW G M d Ps E kc ks tgt L S h) (kf : ¬ x < y → PW G M d Ps E kc ks pc2 L S h) : PW G M d Ps E kc ks pc L (.int y :: .int x :: S) h := by
  subst hp
  exact pw_lift2 (fun hx hb k1 k2 => lv_icmp_lt hx hb hdg ht k1 k2) kt kf
theorem pw_if_ge {x : Int32} {off : Int} (hdg : decode M.2.1 pc = .ok (.ifCond .ge off, 3)) (ht : (pc : Int) + off = (tgt : Int)) (hp : pc + 3 = pc2) (kt : 0 ≤ x → PW G M d Ps E kc ks tgt L S h) (kf : ¬ 0 ≤ x → PW G M d Ps E kc ks pc2 L S h) : PW G M d Ps E kc ks pc L (.int x :: S) h := by
  subst hp
  exact pw_lift2 (fun hx hb k1 k2 => lv_if_ge hx hb hdg ht k1 k2) kt kf
theorem pw_icmp_ge {x y : Int32} {off : Int} (hdg : decode M.2.1 pc = .ok (.if_icmp .ge off, 3)) (ht : (pc : Int) + off = (tgt : Int)) (hp : pc + 3 = pc2) (kt : y ≤ x → PW G M d Ps E kc ks tgt L S h) (kf : ¬ y ≤ x → PW G M d Ps E kc ks pc2 L S h) : PW G M d Ps E kc ks pc L (.int y :: .int x :: S) h := by
  subst hp
  exact pw_lift2 (fun hx hb k1 k2 => lv_icmp_ge hx hb hdg ht k1 k2) kt kf
theorem pw_if_gt {x : Int32} {off : Int} (hdg : decode M.2.1 pc = .ok (.ifCond .gt off, 3)) (ht : (pc : Int) + off = (tgt : Int)) (hp : pc + 3 = pc2) (kt : 0 < x → PW G M d Ps E kc ks tgt L S h) (kf : ¬ 0 < x → PW G M d Ps E kc ks pc2 L S h) : PW G M d Ps E kc ks pc L (.int x :: S) h := by
  subst hp
  exact pw_lift2 (fun hx hb k1 k2 => lv_if_gt hx hb hdg ht k1 k2) kt kf
theorem pw_icmp_gt {x y : Int32} {off : Int} (hdg : decode M.2.1 pc = .ok (.if_icmp .gt off, 3)) (ht : (pc : Int) + off = (tgt : Int)) (hp : pc + 3 = pc2) (kt : y < x → PW G M d Ps E kc ks tgt L S h) (kf : ¬ y < x → PW G M d Ps E kc ks pc2 L S h) : PW G M d Ps E kc ks pc L (.int y :: .int x :: S) h := by
  subst hp
  exact pw_lift2 (fun hx hb k1 k2 => lv_icmp_gt hx hb hdg ht k1 k2) kt kf
theorem pw_if_le {x : Int32} {off : Int} (hdg : decode M.2.1 pc = .ok (.ifCond .le off, 3)) (ht : (pc : Int) + off = (tgt : Int)) (hp : pc + 3 = pc2) (kt : x ≤ 0 → PW G M d Ps E kc ks tgt L S h) (kf : ¬ x ≤ 0 → PW G M d Ps E kc ks pc2 L S h) : PW G M d Ps E kc ks pc L (.int x :: S) h := by
  subst hp
  exact pw_lift2 (fun hx hb k1 k2 => lv_if_le hx hb hdg ht k1 k2) kt kf
theorem pw_icmp_le {x y : Int32} {off : Int} (hdg : decode M.2.1 pc = .ok (.if_icmp .le off, 3)) (ht : (pc : Int) + off = (tgt : Int)) (hp : pc + 3 = pc2) (kt : x ≤ y → PW G M d Ps E kc ks tgt L S h) (kf : ¬ x ≤ y → PW G M d Ps E kc ks pc2 L S h) : PW G M d Ps E kc ks pc L (.int y :: .int x :: S) h := by
  subst hp
  exact pw_lift2 (fun hx hb k1 k2 => lv_icmp_le hx hb hdg ht k1 k2) kt kf
theorem pw_acmp_eq {rx ry : Option Nat} {off : Int} (hdg : decode M.2.1 pc = .ok (.if_acmp .eq off, 3)) (ht : (pc : Int) + off = (tgt : Int)) (hp : pc + 3 = pc2) (kt : rx = ry → PW G M d Ps E kc ks tgt L S h) (kf : ¬ rx = ry → PW G M d Ps E kc ks pc2 L S h) : PW G M d Ps E kc ks pc L (va_rf ry :: va_rf rx :: S) h := by
  subst hp
  exact pw_lift2 (fun hx hb k1 k2 => lv_acmp_eq hx hb hdg ht k1 k2) kt kf
theorem pw_acmp_ne {rx ry : Option Nat} {off : Int} (hdg : decode M.2.1 pc = .ok (.if_acmp .ne off, 3)) (ht : (pc : Int) + off = (tgt : Int)) (hp : pc + 3 = pc2) (kt : ¬ rx = ry → PW G M d Ps E kc ks tgt L S h) (kf : rx = ry → PW G M d Ps E kc ks pc2 L S h) : PW G M d Ps E kc ks pc L (va_rf ry :: va_rf rx :: S) h := by
  subst hp
  exact pw_lift2 (fun hx hb k1 k2 => lv_acmp_ne hx hb hdg ht k1 k2) kt kf
theorem pw_ifnull {r : Option Nat} {off : Int} (hdg : decode M.2.1 pc = .ok (.ifnull off, 3)) (ht : (pc : Int) + off = (tgt : Int)) (hp : pc + 3 = pc2) (kt : r = none → PW G M d Ps E kc ks tgt L S h) (kf : ∀ a : Nat, r = some a → PW G M d Ps E kc ks pc2 L S h) : PW G M d Ps E kc ks pc L (va_rf r :: S) h := by
  subst hp
  cases r with
  | none => exact pw_lift (fun hx hb hl kk => lv_ifnullN hx hb hdg ht kk) (kt rfl)
  | some a => exact pw_lift (fun hx hb hl kk => lv_ifnull hx hb hdg kk) (kf a rfl)
theorem pw_ifnonnull {r : Option Nat} {off : Int} (hdg : decode M.2.1 pc = .ok (.ifnonnull off, 3)) (ht : (pc : Int) + off = (tgt : Int)) (hp : pc + 3 = pc2) (kt : ∀ a : Nat, r = some a → PW G M d Ps E kc ks tgt L S h) (kf : r = none → PW G M d Ps E kc ks pc2 L S h) : PW G M d Ps E kc ks pc L (va_rf r :: S) h := by
  subst hp
  cases r with
  | none => exact pw_lift (fun hx hb hl kk => lv_ifnonnullN hx hb hdg kk) (kf rfl)
  | some a => exact pw_lift (fun hx hb hl kk => lv_ifnonnull hx hb hdg ht kk) (kt a rfl)
theorem pw_tableIn {dflt lo hi : Int} {offs : Array Int} {len : Nat} {x : Int32} {off : Int} (hdg : decode M.2.1 pc = .ok (.tableswitch dflt lo hi offs, len)) (h1 : ¬ x.toInt < lo) (h2 : ¬ hi < x.toInt) (ho : offs[(x.toInt - lo).toNat]? = some off) (ht : (pc : Int) + off = (tgt : Int)) (k : PW G M d Ps E kc ks tgt L S h) : PW G M d Ps E kc ks pc L (.int x :: S) h := pw_lift (fun hx hb hl kk => lv_tableIn hx hb hdg h1 h2 ho ht kk) k
theorem pw_tableOut {dflt lo hi : Int} {offs : Array Int} {len : Nat} {x : Int32} (hdg : decode M.2.1 pc = .ok (.tableswitch dflt lo hi offs, len)) (h1 : x.toInt < lo ∨ hi < x.toInt) (ht : (pc : Int) + dflt = (tgt : Int)) (k : PW G M d Ps E kc ks tgt L S h) : PW G M d Ps E kc ks pc L (.int x :: S) h := pw_lift (fun hx hb hl kk => lv_tableOut hx hb hdg h1 ht kk) k
/-- less is asked -/
theorem PW.widen {kc' ks' : Nat} (h1 : kc' ≤ kc) (h2 : ks' ≤ ks) (k : PW G M d Ps E kc' ks' pc L S h) : PW G M d Ps E kc ks pc L S h := by
  intro p l e R s m args below meth c A H locs cells slots ls MC MS C hR hS hl hm
  exact k p l e R s m args below meth c A H locs cells slots ls MC MS C hR hS hl ⟨by omega, by omega, hm.2.2.1, hm.2.2.2⟩
/-- locals in another order, or fewer -/
theorem PW.sub {L2 : List (Nat × Value)} (is : List Nat) (hs : lv_pick L is = L2) (k : PW G M d Ps E kc ks pc L2 S h) : PW G M d Ps E kc ks pc L S h := by
  intro p l e R s m args below meth c A H locs cells slots ls MC MS C hR hS hl hm
  exact k p l e R s m args below meth c A H locs cells slots ls MC MS C hR hS (lv_sub hl is hs) hm
end PWR
