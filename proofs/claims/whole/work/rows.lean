section
-- ===== PART A: goes FIRST, ahead of the names: the tables' words, and 'selects' of the private methods out of them =====
/-- a private method of a class that the tables say can be made, by its rows of tables_1 -/
def lw_okq (q : MethodName × Nat) : Prop := (q.1.cls ≠ "java/lang/invoke/MethodHandle" ∧ q.1.cls ≠ "java/lang/invoke/VarHandle") ∧ Cond.instantiable q.1.cls q.2 ∈ tables_1 ∧ Cond.privateMethod q.1 ∈ tables_1 ∧ Cond.instanceMethod q.1 ∈ tables_1
theorem lw_p0 : lw_okq (⟨"java/lang/Throwable", "fillInStackTrace", "(I)Ljava/lang/Throwable;"⟩, 6) := ⟨⟨by decide +kernel, by decide +kernel⟩, List.mem_of_getElem? (i := 189) (by decide +kernel), List.mem_of_getElem? (i := 187) (by decide +kernel), List.mem_of_getElem? (i := 188) (by decide +kernel)⟩
theorem lw_p1 : lw_okq (⟨"java/util/ArrayList", "add", "(Ljava/lang/Object;[Ljava/lang/Object;I)V"⟩, 3) := ⟨⟨by decide +kernel, by decide +kernel⟩, List.mem_of_getElem? (i := 42) (by decide +kernel), List.mem_of_getElem? (i := 353) (by decide +kernel), List.mem_of_getElem? (i := 354) (by decide +kernel)⟩
theorem lw_p2 : lw_okq (⟨"java/util/ArrayList", "grow", "()[Ljava/lang/Object;"⟩, 3) := ⟨⟨by decide +kernel, by decide +kernel⟩, List.mem_of_getElem? (i := 42) (by decide +kernel), List.mem_of_getElem? (i := 357) (by decide +kernel), List.mem_of_getElem? (i := 358) (by decide +kernel)⟩
theorem lw_p3 : lw_okq (⟨"java/util/ArrayList", "grow", "(I)[Ljava/lang/Object;"⟩, 3) := ⟨⟨by decide +kernel, by decide +kernel⟩, List.mem_of_getElem? (i := 42) (by decide +kernel), List.mem_of_getElem? (i := 361) (by decide +kernel), List.mem_of_getElem? (i := 362) (by decide +kernel)⟩
theorem lw_p4 : lw_okq (⟨"PackageForge", "packAt", "(I)LPackageForge$Pack;"⟩, 10) := ⟨⟨by decide +kernel, by decide +kernel⟩, List.mem_of_getElem? (i := 34) (by decide +kernel), List.mem_of_getElem? (i := 446) (by decide +kernel), List.mem_of_getElem? (i := 447) (by decide +kernel)⟩
theorem lw_p5 : lw_okq (⟨"PackageForge", "checkPackage", "(I)V"⟩, 10) := ⟨⟨by decide +kernel, by decide +kernel⟩, List.mem_of_getElem? (i := 34) (by decide +kernel), List.mem_of_getElem? (i := 450) (by decide +kernel), List.mem_of_getElem? (i := 451) (by decide +kernel)⟩
theorem lw_p6 : lw_okq (⟨"PackageForge$Chooser", "goToNextWay", "(Ljava/util/ArrayList;I)V"⟩, 3) := ⟨⟨by decide +kernel, by decide +kernel⟩, List.mem_of_getElem? (i := 68) (by decide +kernel), List.mem_of_getElem? (i := 631) (by decide +kernel), List.mem_of_getElem? (i := 632) (by decide +kernel)⟩
theorem lw_p7 : lw_okq (⟨"PackageForge", "testAt", "(I)LPackageForge$Test;"⟩, 10) := ⟨⟨by decide +kernel, by decide +kernel⟩, List.mem_of_getElem? (i := 34) (by decide +kernel), List.mem_of_getElem? (i := 696) (by decide +kernel), List.mem_of_getElem? (i := 697) (by decide +kernel)⟩
theorem lw_p8 : lw_okq (⟨"PackageForge", "placeOnFirstFree", "(I)I"⟩, 10) := ⟨⟨by decide +kernel, by decide +kernel⟩, List.mem_of_getElem? (i := 34) (by decide +kernel), List.mem_of_getElem? (i := 732) (by decide +kernel), List.mem_of_getElem? (i := 733) (by decide +kernel)⟩
theorem lw_p9 : lw_okq (⟨"PackageForge", "costOfTests", "(I)I"⟩, 10) := ⟨⟨by decide +kernel, by decide +kernel⟩, List.mem_of_getElem? (i := 34) (by decide +kernel), List.mem_of_getElem? (i := 745) (by decide +kernel), List.mem_of_getElem? (i := 746) (by decide +kernel)⟩
theorem lw_p10 : lw_okq (⟨"PackageForge", "payFrom", "(II)Z"⟩, 10) := ⟨⟨by decide +kernel, by decide +kernel⟩, List.mem_of_getElem? (i := 34) (by decide +kernel), List.mem_of_getElem? (i := 749) (by decide +kernel), List.mem_of_getElem? (i := 750) (by decide +kernel)⟩
theorem lw_p11 : lw_okq (⟨"PackageForge", "runTests", "(I)I"⟩, 10) := ⟨⟨by decide +kernel, by decide +kernel⟩, List.mem_of_getElem? (i := 34) (by decide +kernel), List.mem_of_getElem? (i := 754) (by decide +kernel), List.mem_of_getElem? (i := 755) (by decide +kernel)⟩
theorem lw_p12 : lw_okq (⟨"PackageForge$Test", "forgetOldest", "()V"⟩, 5) := ⟨⟨by decide +kernel, by decide +kernel⟩, List.mem_of_getElem? (i := 664) (by decide +kernel), List.mem_of_getElem? (i := 762) (by decide +kernel), List.mem_of_getElem? (i := 763) (by decide +kernel)⟩
theorem lw_p13 : lw_okq (⟨"PackageForge", "releaseAt", "(II)LPackageForge$Release;"⟩, 10) := ⟨⟨by decide +kernel, by decide +kernel⟩, List.mem_of_getElem? (i := 34) (by decide +kernel), List.mem_of_getElem? (i := 896) (by decide +kernel), List.mem_of_getElem? (i := 897) (by decide +kernel)⟩
theorem lw_p14 : lw_okq (⟨"PackageForge", "countStale", "()I"⟩, 10) := ⟨⟨by decide +kernel, by decide +kernel⟩, List.mem_of_getElem? (i := 34) (by decide +kernel), List.mem_of_getElem? (i := 909) (by decide +kernel), List.mem_of_getElem? (i := 910) (by decide +kernel)⟩
theorem lw_p15 : lw_okq (⟨"PackageForgeModel", "lacks", "(I)Z"⟩, 38) := ⟨⟨by decide +kernel, by decide +kernel⟩, List.mem_of_getElem? (i := 976) (by decide +kernel), List.mem_of_getElem? (i := 1116) (by decide +kernel), List.mem_of_getElem? (i := 1117) (by decide +kernel)⟩
def lw_privs_1 : List (MethodName × Nat) := [(⟨"java/lang/Throwable", "fillInStackTrace", "(I)Ljava/lang/Throwable;"⟩, 6), (⟨"java/util/ArrayList", "add", "(Ljava/lang/Object;[Ljava/lang/Object;I)V"⟩, 3), (⟨"java/util/ArrayList", "grow", "()[Ljava/lang/Object;"⟩, 3), (⟨"java/util/ArrayList", "grow", "(I)[Ljava/lang/Object;"⟩, 3), (⟨"PackageForge", "packAt", "(I)LPackageForge$Pack;"⟩, 10), (⟨"PackageForge", "checkPackage", "(I)V"⟩, 10), (⟨"PackageForge$Chooser", "goToNextWay", "(Ljava/util/ArrayList;I)V"⟩, 3), (⟨"PackageForge", "testAt", "(I)LPackageForge$Test;"⟩, 10), (⟨"PackageForge", "placeOnFirstFree", "(I)I"⟩, 10), (⟨"PackageForge", "costOfTests", "(I)I"⟩, 10), (⟨"PackageForge", "payFrom", "(II)Z"⟩, 10), (⟨"PackageForge", "runTests", "(I)I"⟩, 10), (⟨"PackageForge$Test", "forgetOldest", "()V"⟩, 5), (⟨"PackageForge", "releaseAt", "(II)LPackageForge$Release;"⟩, 10), (⟨"PackageForge", "countStale", "()I"⟩, 10), (⟨"PackageForgeModel", "lacks", "(I)Z"⟩, 38)]
theorem lw_r1 : ∀ q ∈ lw_privs_1, lw_okq q := List.forall_mem_cons.mpr ⟨lw_p0, List.forall_mem_cons.mpr ⟨lw_p1, List.forall_mem_cons.mpr ⟨lw_p2, List.forall_mem_cons.mpr ⟨lw_p3, List.forall_mem_cons.mpr ⟨lw_p4, List.forall_mem_cons.mpr ⟨lw_p5, List.forall_mem_cons.mpr ⟨lw_p6, List.forall_mem_cons.mpr ⟨lw_p7, List.forall_mem_cons.mpr ⟨lw_p8, List.forall_mem_cons.mpr ⟨lw_p9, List.forall_mem_cons.mpr ⟨lw_p10, List.forall_mem_cons.mpr ⟨lw_p11, List.forall_mem_cons.mpr ⟨lw_p12, List.forall_mem_cons.mpr ⟨lw_p13, List.forall_mem_cons.mpr ⟨lw_p14, List.forall_mem_cons.mpr ⟨lw_p15, fun _ h => absurd h List.not_mem_nil⟩⟩⟩⟩⟩⟩⟩⟩⟩⟩⟩⟩⟩⟩⟩⟩
theorem lw_p16 : lw_okq (⟨"PackageForgeModel", "isPackage", "(I)Z"⟩, 38) := ⟨⟨by decide +kernel, by decide +kernel⟩, List.mem_of_getElem? (i := 976) (by decide +kernel), List.mem_of_getElem? (i := 1120) (by decide +kernel), List.mem_of_getElem? (i := 1121) (by decide +kernel)⟩
theorem lw_p17 : lw_okq (⟨"PackageForgeModel", "raises", "(I)I"⟩, 38) := ⟨⟨by decide +kernel, by decide +kernel⟩, List.mem_of_getElem? (i := 976) (by decide +kernel), List.mem_of_getElem? (i := 1124) (by decide +kernel), List.mem_of_getElem? (i := 1125) (by decide +kernel)⟩
theorem lw_p18 : lw_okq (⟨"PackageForgeModel", "needsOf", "(I)I"⟩, 38) := ⟨⟨by decide +kernel, by decide +kernel⟩, List.mem_of_getElem? (i := 976) (by decide +kernel), List.mem_of_getElem? (i := 1132) (by decide +kernel), List.mem_of_getElem? (i := 1133) (by decide +kernel)⟩
theorem lw_p19 : lw_okq (⟨"PackageForgeModel", "choosesFor", "(I)Z"⟩, 38) := ⟨⟨by decide +kernel, by decide +kernel⟩, List.mem_of_getElem? (i := 976) (by decide +kernel), List.mem_of_getElem? (i := 1150) (by decide +kernel), List.mem_of_getElem? (i := 1151) (by decide +kernel)⟩
theorem lw_p20 : lw_okq (⟨"PackageForgeModel", "chooses", "(I[I[I)Z"⟩, 38) := ⟨⟨by decide +kernel, by decide +kernel⟩, List.mem_of_getElem? (i := 976) (by decide +kernel), List.mem_of_getElem? (i := 1154) (by decide +kernel), List.mem_of_getElem? (i := 1155) (by decide +kernel)⟩
theorem lw_p21 : lw_okq (⟨"PackageForgeModel", "isReached", "(I[I)Z"⟩, 38) := ⟨⟨by decide +kernel, by decide +kernel⟩, List.mem_of_getElem? (i := 976) (by decide +kernel), List.mem_of_getElem? (i := 1158) (by decide +kernel), List.mem_of_getElem? (i := 1159) (by decide +kernel)⟩
theorem lw_p22 : lw_okq (⟨"PackageForgeModel", "fits", "(I[I[I)Z"⟩, 38) := ⟨⟨by decide +kernel, by decide +kernel⟩, List.mem_of_getElem? (i := 976) (by decide +kernel), List.mem_of_getElem? (i := 1162) (by decide +kernel), List.mem_of_getElem? (i := 1163) (by decide +kernel)⟩
theorem lw_p23 : lw_okq (⟨"PackageForgeModel", "versionIn", "(I)I"⟩, 38) := ⟨⟨by decide +kernel, by decide +kernel⟩, List.mem_of_getElem? (i := 976) (by decide +kernel), List.mem_of_getElem? (i := 1166) (by decide +kernel), List.mem_of_getElem? (i := 1167) (by decide +kernel)⟩
theorem lw_p24 : lw_okq (⟨"PackageForgeModel", "isNeeded", "(I)Z"⟩, 38) := ⟨⟨by decide +kernel, by decide +kernel⟩, List.mem_of_getElem? (i := 976) (by decide +kernel), List.mem_of_getElem? (i := 1179) (by decide +kernel), List.mem_of_getElem? (i := 1180) (by decide +kernel)⟩
theorem lw_p25 : lw_okq (⟨"PackageForgeModel", "isOther", "(I)Z"⟩, 38) := ⟨⟨by decide +kernel, by decide +kernel⟩, List.mem_of_getElem? (i := 976) (by decide +kernel), List.mem_of_getElem? (i := 1183) (by decide +kernel), List.mem_of_getElem? (i := 1184) (by decide +kernel)⟩
theorem lw_p26 : lw_okq (⟨"PackageForgeModel", "noTest", "(I)Z"⟩, 38) := ⟨⟨by decide +kernel, by decide +kernel⟩, List.mem_of_getElem? (i := 976) (by decide +kernel), List.mem_of_getElem? (i := 1199) (by decide +kernel), List.mem_of_getElem? (i := 1200) (by decide +kernel)⟩
theorem lw_p27 : lw_okq (⟨"PackageForgeModel", "starts", "(II)I"⟩, 38) := ⟨⟨by decide +kernel, by decide +kernel⟩, List.mem_of_getElem? (i := 976) (by decide +kernel), List.mem_of_getElem? (i := 1219) (by decide +kernel), List.mem_of_getElem? (i := 1220) (by decide +kernel)⟩
theorem lw_p28 : lw_okq (⟨"PackageForgeModel", "records", "(I)V"⟩, 38) := ⟨⟨by decide +kernel, by decide +kernel⟩, List.mem_of_getElem? (i := 976) (by decide +kernel), List.mem_of_getElem? (i := 1228) (by decide +kernel), List.mem_of_getElem? (i := 1229) (by decide +kernel)⟩
theorem lw_p29 : lw_okq (⟨"PackageForgeModel", "flakyOf", "(I)I"⟩, 38) := ⟨⟨by decide +kernel, by decide +kernel⟩, List.mem_of_getElem? (i := 976) (by decide +kernel), List.mem_of_getElem? (i := 1236) (by decide +kernel), List.mem_of_getElem? (i := 1237) (by decide +kernel)⟩
theorem lw_p30 : lw_okq (⟨"PackageForgeModel", "can", "(I)Z"⟩, 38) := ⟨⟨by decide +kernel, by decide +kernel⟩, List.mem_of_getElem? (i := 976) (by decide +kernel), List.mem_of_getElem? (i := 1248) (by decide +kernel), List.mem_of_getElem? (i := 1249) (by decide +kernel)⟩
theorem lw_p31 : lw_okq (⟨"PackageForgeModel", "next", "(I)I"⟩, 38) := ⟨⟨by decide +kernel, by decide +kernel⟩, List.mem_of_getElem? (i := 976) (by decide +kernel), List.mem_of_getElem? (i := 1256) (by decide +kernel), List.mem_of_getElem? (i := 1257) (by decide +kernel)⟩
def lw_privs_2 : List (MethodName × Nat) := [(⟨"PackageForgeModel", "isPackage", "(I)Z"⟩, 38), (⟨"PackageForgeModel", "raises", "(I)I"⟩, 38), (⟨"PackageForgeModel", "needsOf", "(I)I"⟩, 38), (⟨"PackageForgeModel", "choosesFor", "(I)Z"⟩, 38), (⟨"PackageForgeModel", "chooses", "(I[I[I)Z"⟩, 38), (⟨"PackageForgeModel", "isReached", "(I[I)Z"⟩, 38), (⟨"PackageForgeModel", "fits", "(I[I[I)Z"⟩, 38), (⟨"PackageForgeModel", "versionIn", "(I)I"⟩, 38), (⟨"PackageForgeModel", "isNeeded", "(I)Z"⟩, 38), (⟨"PackageForgeModel", "isOther", "(I)Z"⟩, 38), (⟨"PackageForgeModel", "noTest", "(I)Z"⟩, 38), (⟨"PackageForgeModel", "starts", "(II)I"⟩, 38), (⟨"PackageForgeModel", "records", "(I)V"⟩, 38), (⟨"PackageForgeModel", "flakyOf", "(I)I"⟩, 38), (⟨"PackageForgeModel", "can", "(I)Z"⟩, 38), (⟨"PackageForgeModel", "next", "(I)I"⟩, 38)]
theorem lw_r2 : ∀ q ∈ lw_privs_2, lw_okq q := List.forall_mem_cons.mpr ⟨lw_p16, List.forall_mem_cons.mpr ⟨lw_p17, List.forall_mem_cons.mpr ⟨lw_p18, List.forall_mem_cons.mpr ⟨lw_p19, List.forall_mem_cons.mpr ⟨lw_p20, List.forall_mem_cons.mpr ⟨lw_p21, List.forall_mem_cons.mpr ⟨lw_p22, List.forall_mem_cons.mpr ⟨lw_p23, List.forall_mem_cons.mpr ⟨lw_p24, List.forall_mem_cons.mpr ⟨lw_p25, List.forall_mem_cons.mpr ⟨lw_p26, List.forall_mem_cons.mpr ⟨lw_p27, List.forall_mem_cons.mpr ⟨lw_p28, List.forall_mem_cons.mpr ⟨lw_p29, List.forall_mem_cons.mpr ⟨lw_p30, List.forall_mem_cons.mpr ⟨lw_p31, fun _ h => absurd h List.not_mem_nil⟩⟩⟩⟩⟩⟩⟩⟩⟩⟩⟩⟩⟩⟩⟩⟩
theorem lw_p32 : lw_okq (⟨"PackageForgeModel", "last", "(I)I"⟩, 38) := ⟨⟨by decide +kernel, by decide +kernel⟩, List.mem_of_getElem? (i := 976) (by decide +kernel), List.mem_of_getElem? (i := 1260) (by decide +kernel), List.mem_of_getElem? (i := 1261) (by decide +kernel)⟩
theorem lw_p33 : lw_okq (⟨"PackageForgeModel", "find", "(II)I"⟩, 38) := ⟨⟨by decide +kernel, by decide +kernel⟩, List.mem_of_getElem? (i := 976) (by decide +kernel), List.mem_of_getElem? (i := 1272) (by decide +kernel), List.mem_of_getElem? (i := 1273) (by decide +kernel)⟩
theorem lw_p34 : lw_okq (⟨"PackageForgeModel", "stale", "(I)Z"⟩, 38) := ⟨⟨by decide +kernel, by decide +kernel⟩, List.mem_of_getElem? (i := 976) (by decide +kernel), List.mem_of_getElem? (i := 1276) (by decide +kernel), List.mem_of_getElem? (i := 1277) (by decide +kernel)⟩
def lw_privs_3 : List (MethodName × Nat) := [(⟨"PackageForgeModel", "last", "(I)I"⟩, 38), (⟨"PackageForgeModel", "find", "(II)I"⟩, 38), (⟨"PackageForgeModel", "stale", "(I)Z"⟩, 38)]
theorem lw_r3 : ∀ q ∈ lw_privs_3, lw_okq q := List.forall_mem_cons.mpr ⟨lw_p32, List.forall_mem_cons.mpr ⟨lw_p33, List.forall_mem_cons.mpr ⟨lw_p34, fun _ h => absurd h List.not_mem_nil⟩⟩⟩
def lw_privs : List (MethodName × Nat) := lw_privs_1 ++ (lw_privs_2 ++ (lw_privs_3))
def lw_tbl : List Cond := k2_sels lw_privs ++ tables_1
theorem lw_privs_ok : ∀ q ∈ lw_privs, lw_okq q := by
  show ∀ q ∈ lw_privs_1 ++ (lw_privs_2 ++ (lw_privs_3)), lw_okq q
  exact List.forall_mem_append.mpr ⟨lw_r1, List.forall_mem_append.mpr ⟨lw_r2, lw_r3⟩⟩
/-- the streams that the claim lets the run draw from -/
abbrev lw_cs : List Choice := [Jvm.Choice.named "NaN.bits"]
theorem lw_bits : nanBits ∈ lw_cs := by first | decide | exact List.mem_cons_self | simp [lw_cs, nanBits]
-- ===== end of PART A; then your names; then what follows =====
end
section
/-! the class of arrays over arrays, as the tables say it (va_mna of the printed laws speaks of it) -/
def va_AOA (t : FieldType) (U : State) : Prop := (Cond.arrayOver (.array t)).before #[] U = true
theorem va_AOA.of {t : FieldType} {A : Array Value} {U : State} (h : (Cond.arrayOver (.array t)).before A U = true) : va_AOA t U := h
theorem va_AOA.use {t : FieldType} {A : Array Value} {U : State} (h : va_AOA t U) : (Cond.arrayOver (.array t)).before A U = true := h
end
section
/-! ===== BEGIN words of one list among another's, by their places ===== -/
theorem goodIn_r {big : List Cond} (ws : List Cond) (ps : List Nat) (hp : ws = ps.filterMap (fun i => big[i]?)) (h : ws.all goodWord = true) : GoodIn big ws := by
  intro w hw
  have h1 := List.all_eq_true.mp h w hw
  rw [hp] at hw
  obtain ⟨i, -, hi⟩ := List.mem_filterMap.mp hw
  have hm : w ∈ big := by first | exact List.mem_of_getElem? hi | exact List.getElem?_mem hi
  exact ⟨hm, good_of_word h1⟩
theorem goodIn_app {big a b : List Cond} (ha : GoodIn big a) (hb : GoodIn big b) : GoodIn big (a ++ b) := fun w h => (List.mem_append.mp h).elim (ha w) (hb w)
theorem goodIn_ca {big a b : List Cond} {c : Cond} (ha : GoodIn big (c :: a)) (hb : GoodIn big b) : GoodIn big (c :: (a ++ b)) := fun w h => (List.mem_cons.mp h).elim (fun e => ha w (List.mem_cons.mpr (Or.inl e))) (fun h => (List.mem_append.mp h).elim (fun h => ha w (List.mem_cons.mpr (Or.inr h))) (hb w))
theorem goodIn_sub {big ws : List Cond} (hm : ∀ w ∈ ws, w ∈ big) (h : ws.all goodWord = true) : GoodIn big ws := fun w hw => ⟨hm w hw, good_of_word (List.all_eq_true.mp h w hw)⟩
/-! ===== END ===== -/

/-! ===== BEGIN new T[n][m]: the outer array a place, the inner ones among the pooled ===== -/
/-- f, but v at every address of l -/
def vr_up {α : Type} (f : Nat → α) (l : List Nat) (v : α) : Nat → α := fun a => if a ∈ l then v else f a
theorem vr_up_in {α : Type} {f : Nat → α} {l : List Nat} {v : α} {a : Nat} (h : a ∈ l) : vr_up f l v a = v := if_pos h
theorem vr_up_ne {α : Type} {f : Nat → α} {l : List Nat} {v : α} {a : Nat} (h : a ∉ l) : vr_up f l v a = f a := if_neg h
theorem vr_rows {L l : List Nat} {f : Nat → va_E} {e : va_E} (h : ∀ a, a ∈ l → a ∉ L) : va_pl L f ++ l.map (fun a => (a, e)) = va_pl (L ++ l) (vr_up f l e) := by
  unfold va_pl
  rw [List.map_append]
  congr 1
  · apply List.map_congr_left
    intro a ha
    rw [vr_up_ne (fun q => h a q ha)]
  · apply List.map_congr_left
    intro a ha
    rw [vr_up_in ha]
theorem vr_lay {X rows : va_W} {x : Nat × va_E} {pl : va_W} {D : va_G} {cl : List vw_C} {H : Heap} (hP : va_P D cl (((X ++ pl) ++ [x]) ++ rows) H) : va_P D cl ((X ++ [x]) ++ (pl ++ rows)) H := by
  rw [List.append_assoc (X ++ pl)] at hP
  have h := va_P.swap hP
  rw [← List.append_assoc X] at h
  have h2 := va_P.swap h
  rw [List.append_assoc (X ++ [x])] at h2
  exact h2
theorem vr_layD {X rows : va_W} {x : Nat × va_E} {pl : va_W} {A : Nat → Prop} (hD : va_D A (((X ++ pl) ++ [x]) ++ rows)) : va_D A ((X ++ [x]) ++ (pl ++ rows)) := by
  rw [List.append_assoc (X ++ pl)] at hD
  have h := va_D.swap hD
  rw [← List.append_assoc X] at h
  have h2 := va_D.swap h
  rw [List.append_assoc (X ++ [x])] at h2
  exact h2
theorem vr_outer (c : ClassId) (N h0 : Nat) : ∀ i : Nat, Jvm.Free.Multi.outerC c N h0 i = arrV c N (fun j => va_rf (if j < i then some (h0 + 1 + j) else none))
  | 0 => by
    show ({ cls := c, slots := Array.replicate N .null, vm := .none } : Cell) = _
    rw [arrV_new]
    refine congrArg (arrV c N) (funext fun j => ?_)
    simp [va_rf]
  | i + 1 => by
    show (Jvm.Free.Multi.outerC c N h0 i).setSlot i (.ref (h0 + 1 + i)) = _
    rw [vr_outer c N h0 i, arrV_store]
    refine congrArg (arrV c N) (funext fun j => ?_)
    by_cases e : j = i
    · subst e
      simp [updV, va_rf]
    · by_cases h : j < i
      · simp [updV, e, h, Nat.lt_succ_of_lt h]
      · simp [updV, e, h, show ¬ j < i + 1 by omega]
section VGM
variable {p : Program} {l : Launch} {e : Env} {R : Room} {s : State} {m : MethodId} {args : Array Value} {below : List Frame} {meth : Method} {c : Code} {H : Heap} {locs : List Loc} {cells slots : Nat} {Q : State → Prop}
variable {cc : ByteArray} {pc : Nat} {ls : Array Slot} {rest : List Value} {D : va_G} {cl : List vw_C} {A : Nat → Prop} {a : Nat} {tys : List (ClassId × FieldType)} {ws : va_W} {H0 : Heap}
theorem va_mna {X : va_W} {L : List Nat} {f : Nat → va_E} {cc : ByteArray} (hexec : p.tables.exec = Jvm.exec) (hb : c.code = cc) {own : String} {index : Nat} {ty : FieldType} {cy : ClassId} (hown : s.vm.findClass own = some m.cls) (hclink : (Cond.classLink own index ("[" ++ (FieldType.array ty).toString)).before args s = true) (hover : va_AOA ty s) (harr : (Cond.arrayClass ty).before args s = true) (hcy : s.vm.findClass (FieldType.array ty).toString = some cy)
    (hK : va_K D cl tys s) (hP : va_P D cl (X ++ va_pl L f) H) (hD : va_D A (X ++ va_pl L f)) (hS : va_S A H0 H locs) (hA : ∀ q, H0.size ≤ q → A q) {n k : Int32} {N' K' : Nat} {z : vp_A} (hn : ¬ n < 0) (hk : ¬ k < 0) (hN : n.toNatClampNeg = N') (hM : k.toNatClampNeg = K')
    (hb1 : N' * 4 ≤ 536870912) (hb2 : K' * componentBytes ty ≤ 536870912) (hb3 : K' ≤ 536870912) (hdf : fits ty (defaultValue ty) = true) (hdd : (defaultValue ty).isDefault = true) (hcells : cells + (1 + N') ≤ R.cells) (hslots : slots + (N' + N' * K') ≤ R.slots) (hz : ∀ c : ClassId, Jvm.Free.Multi.innerC c K' (defaultValue ty) = vp_cell c z) (hdg : decode cc pc = .ok (.multianewarray index 2, 4))
    (kk : ∀ (q : Nat) (r : Nat → Nat) (cA : ClassId) (H1 : Heap), (∀ i j : Nat, i < N' → j < N' → r i = r j → i = j) → (∀ i : Nat, i < N' → r i ∉ L) → va_K D cl (tys ++ [(cA, .array ty)]) s →
      va_P D cl ((X ++ [(q, .inl (cA, N', .inr (.inr (.inr (.inr (fun i => if i < N' then some (r i) else none))))))]) ++ va_pl (L ++ (List.range N').map r) (vr_up f ((List.range N').map r) (.inl (cy, z)))) H1 → va_D A ((X ++ [(q, .inl (cA, N', .inr (.inr (.inr (.inr (fun i => if i < N' then some (r i) else none))))))]) ++ va_pl (L ++ (List.range N').map r) (vr_up f ((List.range N').map r) (.inl (cy, z)))) → va_S A H0 H1 locs →
      W p l e R s m args below meth c H1 locs (cells + 1 + N') (slots + N' + N' * K') Q (F0 m (pc + 4) ls (.ref q :: rest))) : W p l e R s m args below meth c H locs cells slots Q (F0 m pc ls (.int k :: .int n :: rest)) := by
  subst hN
  subst hM
  intro T hT Xs
  obtain ⟨vm₁, cA, comp, -, fA, fC, hO, -, X', step⟩ := Xs.multianewarray2F hexec hown hclink (va_AOA.use hover) harr (g := F0 m pc ls (.int k :: .int n :: rest)) rfl (by rw [hb]; exact hdg) rfl hn hk hb1 hb2 hb3 hdf hdd hcells hslots
  have ec : some cy = some comp := hcy.symm.trans fC
  cases ec
  generalize hF : Jvm.Free.Multi.fill (T.setVm vm₁) cA cy n.toNatClampNeg k.toNatClampNeg (defaultValue ty) n.toNatClampNeg = F at X' step
  have hTh : (T.setVm vm₁).heap = H := hT
  obtain ⟨f1, f2, -, -⟩ := Jvm.Free.Multi.fill_facts (T.setVm vm₁) cA cy n.toNatClampNeg k.toNatClampNeg (defaultValue ty) n.toNatClampNeg
  rw [hF, hTh] at f1 f2
  have hold : ∀ x : Nat, x < H.size → F.heap[x]? = H[x]? := fun x hx => by
    have := Jvm.Free.Multi.fill_old (T.setVm vm₁) cA cy n.toNatClampNeg k.toNatClampNeg (defaultValue ty) (a := x) (by rw [hTh]; exact hx) n.toNatClampNeg
    rw [hF, hTh] at this
    exact this
  have hrow : ∀ j : Nat, j < n.toNatClampNeg → F.heap[H.size + 1 + j]? = some (vp_cell cy z) := fun j hj => by
    have := Jvm.Free.Multi.fill_inner (T.setVm vm₁) cA cy n.toNatClampNeg k.toNatClampNeg (defaultValue ty) n.toNatClampNeg j hj
    rw [hF, hTh, hz] at this
    exact this
  have hout : Jvm.Free.Multi.outerC cA n.toNatClampNeg H.size n.toNatClampNeg = vp_cell cA (n.toNatClampNeg, .inr (.inr (.inr (.inr (fun i => if i < n.toNatClampNeg then some (H.size + 1 + i) else none))))) := by
    rw [vp_cell_q]
    exact vr_outer cA n.toNatClampNeg H.size n.toNatClampNeg
  rw [hout] at f2
  have hlt : ∀ a, a ∈ L → a < H.size := fun a ha => by
    obtain ⟨k9, hk9⟩ := va_pl_get (X := X) (f := f) ha
    exact (hP k9 _ hk9).lt
  have hnl : ∀ i : Nat, i < n.toNatClampNeg → H.size + 1 + i ∉ L := fun i _ h => by
    have := hlt _ h
    omega
  have hnm : ∀ a, a ∈ (List.range n.toNatClampNeg).map (fun i => H.size + 1 + i) → a ∉ L := fun a ha h => by
    obtain ⟨i, -, rfl⟩ := List.mem_map.mp ha
    have := hlt _ h
    omega
  have hP0 : va_P D cl (X ++ va_pl L f) F.heap := hP.kept (fun k9 x hx => hold x.1 ((hP k9 x hx).lt))
  have hP1 : va_P D cl ((X ++ va_pl L f) ++ [(H.size, .inl (cA, n.toNatClampNeg, .inr (.inr (.inr (.inr (fun i => if i < n.toNatClampNeg then some (H.size + 1 + i) else none))))))]) F.heap := hP0.app (fun k9 x hx => by
    have h0 : k9 < 1 := (List.getElem?_eq_some_iff.mp hx).1
    rw [show k9 = 0 by omega] at hx
    cases hx
    exact f2)
  have hP2 : va_P D cl (((X ++ va_pl L f) ++ [(H.size, .inl (cA, n.toNatClampNeg, .inr (.inr (.inr (.inr (fun i => if i < n.toNatClampNeg then some (H.size + 1 + i) else none))))))]) ++ ((List.range n.toNatClampNeg).map (fun i => H.size + 1 + i)).map (fun a => (a, .inl (cy, z)))) F.heap := hP1.app (fun k9 x hx => by
    obtain ⟨a, ha, rfl⟩ := List.mem_map.mp (List.mem_of_getElem? hx)
    obtain ⟨i, hi, rfl⟩ := List.mem_map.mp ha
    exact hrow i (List.mem_range.mp hi))
  have hD2 : va_D A (((X ++ va_pl L f) ++ [(H.size, .inl (cA, n.toNatClampNeg, .inr (.inr (.inr (.inr (fun i => if i < n.toNatClampNeg then some (H.size + 1 + i) else none))))))]) ++ ((List.range n.toNatClampNeg).map (fun i => H.size + 1 + i)).map (fun a => (a, .inl (cy, z)))) := by
    have hD1 := hD.push (e := .inl (cA, n.toNatClampNeg, .inr (.inr (.inr (.inr (fun i => if i < n.toNatClampNeg then some (H.size + 1 + i) else none)))))) hP rfl (hA _ hS.1)
    generalize hW1 : (X ++ va_pl L f) ++ [(H.size, .inl (cA, n.toNatClampNeg, .inr (.inr (.inr (.inr (fun i => if i < n.toNatClampNeg then some (H.size + 1 + i) else none))))))] = W1 at hD1 hP1 ⊢
    have hle : ∀ (k9 : Nat) (x : Nat × va_E), W1[k9]? = some x → x.1 ≤ H.size := fun k9 x hx => by
      rw [← hW1] at hx
      by_cases hl : k9 < (X ++ va_pl L f).length
      · rw [List.getElem?_append_left hl] at hx
        exact Nat.le_of_lt ((hP k9 x hx).lt)
      · rw [List.getElem?_append_right (by omega)] at hx
        have h0 : k9 - (X ++ va_pl L f).length < 1 := (List.getElem?_eq_some_iff.mp hx).1
        rw [show k9 - (X ++ va_pl L f).length = 0 by omega] at hx
        cases hx
        exact Nat.le_refl _
    have hr : ∀ (k9 : Nat) (x : Nat × va_E), (((List.range n.toNatClampNeg).map (fun i => H.size + 1 + i)).map (fun a => ((a, .inl (cy, z)) : Nat × va_E)))[k9]? = some x → x.1 = H.size + 1 + k9 := fun k9 x hx => by
      rw [List.getElem?_map, List.getElem?_map] at hx
      by_cases h9 : k9 < n.toNatClampNeg
      · rw [List.getElem?_range h9] at hx
        cases hx
        rfl
      · have hn0 : (List.range n.toNatClampNeg)[k9]? = none := List.getElem?_eq_none (by rw [List.length_range]; omega)
        rw [hn0] at hx
        cases hx
    refine ⟨fun i j x y hi hj hxy => ?_, fun k9 x hx => ?_⟩
    · by_cases h1 : i < W1.length <;> by_cases h2 : j < W1.length
      · rw [List.getElem?_append_left h1] at hi
        rw [List.getElem?_append_left h2] at hj
        exact hD1.1 i j x y hi hj hxy
      · rw [List.getElem?_append_left h1] at hi
        rw [List.getElem?_append_right (by omega)] at hj
        have := hle _ _ hi
        have := hr _ _ hj
        omega
      · rw [List.getElem?_append_right (by omega)] at hi
        rw [List.getElem?_append_left h2] at hj
        have := hle _ _ hj
        have := hr _ _ hi
        omega
      · rw [List.getElem?_append_right (by omega)] at hi hj
        have := hr _ _ hi
        have := hr _ _ hj
        omega
    · by_cases h1 : k9 < W1.length
      · rw [List.getElem?_append_left h1] at hx
        exact hD1.2 k9 x hx
      · rw [List.getElem?_append_right (by omega)] at hx
        have := hr _ _ hx
        exact hA _ (by have := hS.1; omega)
  have hAr : ArrOfT s cA (.array ty) := fun N9 z9 => by
    obtain ⟨-, k9, hk9, cm9, hkk9⟩ := (hO 0 0 0).1
    exact ⟨(fun q hq => by cases hq), k9, hk9, cm9, hkk9⟩
  have hK2 : va_K D cl (tys ++ [(cA, .array ty)]) s := ⟨hK.1, fun k9 x hx => by
    by_cases hl : k9 < tys.length
    · rw [List.getElem?_append_left hl] at hx
      exact hK.2 k9 x hx
    · rw [List.getElem?_append_right (by omega)] at hx
      have h0 : k9 - tys.length < 1 := (List.getElem?_eq_some_iff.mp hx).1
      rw [show k9 - tys.length = 0 by omega] at hx
      cases hx
      exact ⟨hAr, fA⟩⟩
  obtain ⟨t, a1, b1⟩ := kk H.size (fun i => H.size + 1 + i) cA F.heap (fun i j _ _ h => by have h9 : H.size + 1 + i = H.size + 1 + j := h; omega) hnl hK2 (by rw [← vr_rows hnm]; exact vr_lay hP2) (by rw [← vr_rows hnm]; exact vr_layD hD2) ⟨by rw [f1]; have := hS.1; omega, fun x h1 h2 => (hold x (Nat.lt_of_lt_of_le h1 hS.1)).trans (hS.2.1 x h1 h2), hS.2.2⟩ F rfl X'
  refine ⟨t, step t ?_, b1⟩
  have e : T.heap.size = H.size := by rw [hT]
  rw [e]
  exact a1
end VGM
/-! ===== END ===== -/

/-! ===== BEGIN exceptions that leave a method, and their catching by the caller (launches without stack traces) ===== -/
section VXA
/-! The laws vx_back, vx_callV, vx_callS, vx_callSW, vx_throw0, vx_throwS follow proofs of the library, with one case more: JvmDerived/Free/Laws.lean (Back.of_free), Shelf42/LK1.lean (callV, callS), Shelf/KitTraced.lean (throwNew0V, throwNewS). -/
/-- where a method has thrown q: the class by its name, the cell, what was written, the world -/
def vx_T (XC : String → State → State → Prop) (st : State) (q : Addr) (t : State) (mc ms : Nat) (free : Addr → Prop) : Prop :=
  ∃ (E : String) (ce : Cell) (L : List Loc), XC E st t ∧ t.heap[q]? = some ce ∧ ce.vm = .none ∧ st.vm.findClass E = some ce.cls ∧ st.WarmedH t.vm ∧ st.sameButNew ({ t with vm := st.vm } : State) L mc ms ∧ ∀ z ∈ L, free z.base
def vx_Q (Qc : Array Value → State → Outcome → State → Prop) (XC : String → State → State → Prop) (mc ms : Nat) (free : Addr → Prop) : Array Value → State → Outcome → State → Prop := fun a st o t =>
  (Qc a st o t ∧ ∃ L, FrameEnd st o t L mc ms ∧ ∀ q ∈ L, free q.base) ∨ ∃ q, o = .threw q ∧ vx_T XC st q t mc ms free
/-- a callee that returns or throws -/
def vx_Met (l : Launch) (y : MethodName) (ws : List Cond) (rm : Room) (Pc : Array Value → State → Prop) (Qc : Array Value → State → Outcome → State → Prop) (XC : String → State → State → Prop) (mc ms : Nat) (free : Addr → Prop) : Prop :=
  MetFree l y (headSpec ws rm) Pc (fun _ _ _ _ _ => True) (vx_Q Qc XC mc ms free)
def vx_Post (XC : String → State → State → Prop) (mc ms : Nat) (free : Addr → Prop) : Pt → Array Value → Addr → Pt → Prop := fun A a q B =>
  ∃ (g : JFrame) (mk : MethodId) (t : State) (L : List Loc) (E : String) (ce : Cell), B.U.heap = t.heap ∧ B.U.vm = t.vm ∧ XC E (A.U.calling g mk a) t ∧ t.heap[q]? = some ce ∧ ce.vm = .none ∧ A.U.vm.findClass E = some ce.cls ∧ B.locs = A.locs ++ L ∧ (∀ z ∈ L, free z.base) ∧ B.cells = A.cells + mc ∧ B.slots = A.slots + ms
def vx_Back (l : Launch) (R : Room) (p : Program) (e : Env) (below : List Frame) (s : State) (sargs : Array Value) (y : MethodName) (len W9 : Nat)
    (Pre : Pt → Array Value → Prop) (Post : Pt → Array Value → Option Value → Pt → Prop) (PostX : Pt → Array Value → Addr → Pt → Prop) : Prop :=
  ∀ (m : MethodId) (meth : Method) (c : Code) (A : Pt) (g : JFrame) (ig : Instr) (mk : MethodId) (a : Array Value),
    Stand p l e R s m sargs below meth c A.U A.locs A.cells A.slots → g.method = m → g.locals.size = c.maxLocals → decode c.code g.pc = .ok (ig, len) →
    2 * g.monitorRoom + (g.stack.map fun v => v.category).sum ≤ W9 → A.U.methodNamed? y = some mk → Pre A a →
    (∃ (v : Option Value) (B : Pt), Stand p l e R s m sargs below meth c B.U B.locs B.cells B.slots ∧ Post A a v B ∧
      Steps p.tables e below (doInvoke e (A.U.setTop g) [] mk a).1 (B.U.setTop { g with pc := g.pc + len, stack := v.toList ++ g.stack })) ∨
    (∃ (q : Addr) (B : Pt), Stand p l e R s m sargs below meth c B.U B.locs B.cells B.slots ∧ PostX A a q B ∧
      Steps p.tables e below (doInvoke e (A.U.setTop g) [] mk a).1 ((B.U.setTop g).pushFrame (.throwing q)))
section Payer
variable {l : Launch} {R : Room} {p : Program} {e : Env} {below : List Frame} {s : State} {sargs : Array Value} {y : MethodName} {len W9 : Nat}
theorem vx_back {ws : List Cond} {rm : Room} {Pc : Array Value → State → Prop} {Qc : Array Value → State → Outcome → State → Prop} {XC : String → State → State → Prop} {mc ms : Nat} {free : Addr → Prop} {bytes : ByteArray} {maxL : Nat} {ret : Option FieldType}
    (hM : vx_Met l y ws rm Pc Qc XC mc ms free) (hblind : FrameBlind Pc) (hrc : rm.cells = mc) (hrs : rm.slots = ms)
    (hframes : rm.frames + 1 ≤ R.frames) (hlocals : W9 + (maxL + 11) + rm.locals ≤ R.locals)
    (hws : ∀ w ∈ ws, ∀ a' U, s.WarmedH U.vm → w.before a' U = true) (hcode : Cond.code y bytes maxL ret ∈ ws) (hinit : ∀ a' U, s.WarmedH U.vm → (Cond.initialized y.cls).before a' U = true) :
    vx_Back l R p e below s sargs y len W9 (PreOf R mc ms Pc) (PostOf Qc mc ms free) (vx_Post XC mc ms free) := by
  intro m meth c A g ig mk a X hg hsize hdg hW hn hp
  have h1 : (headSpec ws rm).pre.before a A.U = true := atoms_intro fun w hw => hws w hw _ _ X.warmed
  have h2 : (Cond.code y bytes maxL ret).before a A.U = true := hws _ hcode _ _ X.warmed
  have h3 : (Cond.initialized y.cls).before a A.U = true := hinit _ _ X.warmed
  have h4 : A.cells + (headSpec ws rm).room.cells ≤ R.cells := by rw [show (headSpec ws rm).room.cells = mc from hrc]; exact hp.1
  have h5 : A.slots + (headSpec ws rm).room.slots ≤ R.slots := by rw [show (headSpec ws rm).room.slots = ms from hrs]; exact hp.2.1
  have hPc : Pc a (A.U.calling g mk a) := hblind _ _ _ _ hp.2.2
  obtain ⟨U, Ls, c0, s0⟩ := A
  dsimp only [Pt.U, Pt.locs, Pt.cells, Pt.slots] at h1 h2 h3 h4 h5 X hn hPc ⊢
  obtain ⟨methY, cY, hmY, hcY, -, hlY, -, -, -, -⟩ := Cond.code_spec hn h2
  obtain ⟨kY, hkY, -⟩ := className_of_methodNamed hn
  have hinitY : kY.init = .initialized := Cond.initialized_spec (findClass_of_methodNamed hn) hkY h3
  have h : At U g.method c below := by rw [hg]; exact X.here
  have hlocals9 : W9 + (maxL + 11) + (headSpec ws rm).room.locals ≤ R.locals := hlocals
  have happ : (headSpec ws rm).appliesLoose y e.platform (U.calling g mk a) = true :=
    Spec.appliesLoose_calling (g := g) h hdg hn hkY hinitY
      (X.room_calling (g := g) (R' := (headSpec ws rm).room) hsize hmY hcY hframes (by rw [hlY]; omega) h4 h5) h1
  obtain ⟨mid, hmid⟩ := h.above
  have hfr : (U.setTop g).frames = (.java g :: mid) ++ below := by rw [State.frames_setTop' g h.top, hmid]; rfl
  obtain ⟨o, s₂, hsteps, -, hend, hq⟩ := Steps.callFree hM p X.admits X.cas X.clock (acts := []) hfr happ hPc trivial
  have hq' : vx_Q Qc XC mc ms free a (U.calling g mk a) o s₂ := hq
  rw [State.frames_setTop' g h.top] at hend
  obtain ⟨g₀, hg0⟩ := Option.isSome_iff_exists.mp h.top
  obtain ⟨r, hr⟩ := State.topJava?_eq_some.mp hg0
  have hr' : (({ U with heap := s₂.heap, slotsUsed := s₂.slotsUsed } : State).setVm s₂.vm).frames = .java g₀ :: r := hr
  rcases hq' with ⟨hqc, L, hfe, hL⟩ | ⟨q, rfl, E, ce, L, hx, hce, hcv, hcl, hW₂, hsm, hL⟩
  · obtain ⟨⟨v, rfl⟩, hW₂, e2, q2, q3, q4, q5, q6⟩ := id hfe
    have e3 : s₂ = ({ (U.calling g mk a).setFrames s₂.frames with heap := s₂.heap, slotsUsed := s₂.slotsUsed } : State).setVm s₂.vm := by
      have : s₂ = ({ s₂ with vm := (U.calling g mk a).vm } : State).setVm s₂.vm := rfl
      rw [e2] at this
      exact this
    obtain ⟨c₂, i₂, len₂, hc₂, hd₂, hf₂⟩ := hend
    have hW' : U.WarmedH s₂.vm := hW₂
    have hcc : c₂ = c := by
      have h1 : s₂.code? g.method = U.code? g.method := by
        rw [State.code?_eq, State.code?_eq, hW'.alike.method?]
      exact Option.some.inj (hc₂.symm.trans (h1.trans h.code))
    subst hcc
    have hlen : len₂ = len := by rw [hdg] at hd₂; cases hd₂; rfl
    subst hlen
    have hs₂ : s₂ = (({ U with heap := s₂.heap, slotsUsed := s₂.slotsUsed } : State).setVm s₂.vm).setTop { g with pc := g.pc + len₂, stack := v.toList ++ g.stack } := by
      refine e3.trans ?_
      rw [hf₂, State.calling_eq h.top, State.setFrames_setFrames, State.setTop_of_frames _ hr', hr]
      rfl
    have hsame : U.sameButNew ({ U with heap := s₂.heap, slotsUsed := s₂.slotsUsed } : State) L mc ms := by
      refine ⟨?_, q2, q3, q4, q5, q6⟩
      obtain ⟨t, ht, -⟩ := State.frames_cons hr
      show ({ U with heap := s₂.heap, slotsUsed := s₂.slotsUsed } : State) = { U.setFrames U.frames with heap := s₂.heap, slotsUsed := s₂.slotsUsed }
      rw [State.setFrames_self ht]
    subst hg
    refine Or.inl ⟨v, ⟨(({ U with heap := s₂.heap, slotsUsed := s₂.slotsUsed } : State).setVm s₂.vm), Ls ++ L, c0 + mc, s0 + ms⟩,
      ⟨X.admits, X.cas, X.clock, X.frames, X.room, X.hears, X.method, X.code, (X.here.setHeapUsed s₂.heap s₂.slotsUsed).setVm hW'.alike, X.tail, State.WarmedH.trans X.warmed hW', X.limits, X.bytes, X.same.trans (hsame.setVm s.vm)⟩,
      ⟨g, mk, s₂, L, rfl, rfl, hqc, rfl, hL, rfl, rfl⟩, ?_⟩
    show Steps p.tables e below _ ((({ U with heap := s₂.heap, slotsUsed := s₂.slotsUsed } : State).setVm s₂.vm).setTop { g with pc := g.pc + len₂, stack := v.toList ++ g.stack })
    rw [← hs₂]
    exact hsteps
  · obtain ⟨e2, q2, q3, q4, q5, q6⟩ := id hsm
    have e3 : s₂ = ({ (U.calling g mk a).setFrames s₂.frames with heap := s₂.heap, slotsUsed := s₂.slotsUsed } : State).setVm s₂.vm := by
      have : s₂ = ({ s₂ with vm := (U.calling g mk a).vm } : State).setVm s₂.vm := rfl
      rw [e2] at this
      exact this
    have hf₂ : s₂.frames = .throwing q :: .java g :: U.frames.tail := hend
    have hW' : U.WarmedH s₂.vm := hW₂
    have hs₂ : s₂ = ((({ U with heap := s₂.heap, slotsUsed := s₂.slotsUsed } : State).setVm s₂.vm).setTop g).pushFrame (.throwing q) := by
      refine e3.trans ?_
      rw [hf₂, State.calling_eq h.top, State.setFrames_setFrames, State.pushFrame, State.frames_setTop _ hr', State.setTop_of_frames _ hr', State.setFrames_setFrames, hr]
      rfl
    have hsame : U.sameButNew ({ U with heap := s₂.heap, slotsUsed := s₂.slotsUsed } : State) L mc ms := by
      refine ⟨?_, q2, q3, q4, q5, q6⟩
      obtain ⟨t, ht, -⟩ := State.frames_cons hr
      show ({ U with heap := s₂.heap, slotsUsed := s₂.slotsUsed } : State) = { U.setFrames U.frames with heap := s₂.heap, slotsUsed := s₂.slotsUsed }
      rw [State.setFrames_self ht]
    subst hg
    refine Or.inr ⟨q, ⟨(({ U with heap := s₂.heap, slotsUsed := s₂.slotsUsed } : State).setVm s₂.vm), Ls ++ L, c0 + mc, s0 + ms⟩,
      ⟨X.admits, X.cas, X.clock, X.frames, X.room, X.hears, X.method, X.code, (X.here.setHeapUsed s₂.heap s₂.slotsUsed).setVm hW'.alike, X.tail, State.WarmedH.trans X.warmed hW', X.limits, X.bytes, X.same.trans (hsame.setVm s.vm)⟩,
      ⟨g, mk, s₂, L, E, ce, rfl, rfl, hx, hce, hcv, hcl, rfl, hL, rfl, rfl⟩, ?_⟩
    show Steps p.tables e below _ (((({ U with heap := s₂.heap, slotsUsed := s₂.slotsUsed } : State).setVm s₂.vm).setTop g).pushFrame (.throwing q))
    rw [← hs₂]
    exact hsteps
end Payer
section Calls
variable {p : Program} {l : Launch} {e : Env} {R : Room} {s : State} {m : MethodId} {args : Array Value} {below : List Frame} {meth : Method} {c : Code} {T : State} {locs : List Loc} {cells slots : Nat}
theorem vx_callV (X : Stand p l e R s m args below meth c T locs cells slots) (hexec : p.tables.exec = Jvm.exec) {own C : String} {index : Nat} {y : MethodName} {bytes : ByteArray} {maxL : Nat} {ret : Option FieldType}
    (hown : s.vm.findClass own = some m.cls) (hlink : (Cond.methodLink own index y).before args s = true) (hinst : (Cond.instanceMethod y).before args s = true) (hsel : (Cond.selects C y y).before args s = true)
    (hcode : (Cond.code y bytes maxL ret).before args s = true) (hy : y.cls ≠ "java/lang/invoke/MethodHandle" ∧ y.cls ≠ "java/lang/invoke/VarHandle")
    {W9 : Nat} {Pre : Pt → Array Value → Prop} {Post : Pt → Array Value → Option Value → Pt → Prop} {PostX : Pt → Array Value → Addr → Pt → Prop} (hK : vx_Back l R p e below s args y 3 W9 Pre Post PostX)
    {b : Addr} {cellB : Cell} (hcell : T.heap[b]? = some cellB) (hobj : cellB.vm.isStatics = false) (hcls : s.vm.findClass C = some cellB.cls)
    {g : JFrame} (hg : g.method = m) (hsize : g.locals.size = c.maxLocals) {argsL rest : List Value} (hlen : ∀ sig, parseMethodDescriptor y.desc = some sig → argsL.length = sig.parameters.length)
    (hstack : g.stack = argsL.reverse ++ .ref b :: rest) (hW : 2 * g.monitorRoom + (rest.map fun v => v.category).sum ≤ W9) (hdg : decode c.code g.pc = .ok (.invokevirtual index, 3))
    (hpre : ∀ vm₁, s.WarmedH vm₁ → Pre ⟨T.setVm vm₁, locs, cells, slots⟩ (Value.ref b :: argsL).toArray) :
    (∃ (v : Option Value) (vm₁ : Vm) (B : Pt), s.WarmedH vm₁ ∧ Stand p l e R s m args below meth c B.U B.locs B.cells B.slots ∧ Post ⟨T.setVm vm₁, locs, cells, slots⟩ (Value.ref b :: argsL).toArray v B ∧
      ∀ target, Steps p.tables e below (B.U.setTop { g with pc := g.pc + 3, stack := v.toList ++ rest }) target → Steps p.tables e below (T.setTop g) target) ∨
    (∃ (q : Addr) (vm₁ : Vm) (B : Pt), s.WarmedH vm₁ ∧ Stand p l e R s m args below meth c B.U B.locs B.cells B.slots ∧ PostX ⟨T.setVm vm₁, locs, cells, slots⟩ (Value.ref b :: argsL).toArray q B ∧
      Steps p.tables e below (T.setTop g) ((B.U.setTop { g with stack := rest }).pushFrame (.throwing q))) := by
  obtain ⟨mk, methM, hnamed, hmethM, hstM, habM⟩ := Cond.instanceMethod_spec hinst
  obtain ⟨methM', cM, hmethM', -, -, -, -, -, -, hsigM⟩ := Cond.code_spec hnamed hcode
  cases hmethM.symm.trans hmethM'
  obtain ⟨c2, r2, m2, q1, q2, q3, q4, kP, hkP, hkPi⟩ := Cond.selects_spec hsel
  cases hcls.symm.trans q1
  cases (State.methodFound?_of_named hnamed hy).symm.trans q2
  cases hnamed.symm.trans q3
  have hselP : selectMethod e.platform s.vm cellB.cls mk = .method mk := by rw [Launch.admits_selectMethod X.admits]; exact q4
  obtain ⟨vm₁, X₁, hstep₁⟩ := X.invokevirtual hexec hown hlink hnamed hmethM hstM hkP hkPi hy (a := b) (cell := cellB) hcell
    (fun z h => by rw [h] at hobj; cases hobj) hselP hmethM habM hkP hkPi (g := g) hg (argsL := argsL) (rest := rest) (hlen _ hsigM) hstack hdg
  rcases hK m meth c ⟨T.setVm vm₁, locs, cells, slots⟩ { g with stack := rest } (.invokevirtual index) mk (Value.ref b :: argsL).toArray X₁ hg hsize hdg hW (X₁.named hnamed) (hpre vm₁ X₁.warmed) with ⟨v, B, X', hpost, hsteps⟩ | ⟨q, B, X', hpost, hsteps⟩
  · exact Or.inl ⟨v, vm₁, B, X₁.warmed, X', hpost, fun target h => hstep₁ _ fun acts => by rw [doInvoke_state]; exact hsteps.trans h⟩
  · exact Or.inr ⟨q, vm₁, B, X₁.warmed, X', hpost, hstep₁ _ fun acts => by rw [doInvoke_state]; exact hsteps⟩
theorem vx_callS (X : Stand p l e R s m args below meth c T locs cells slots) (hexec : p.tables.exec = Jvm.exec) {own : String} {index : Nat} {y : MethodName} {bytes : ByteArray} {maxL : Nat} {ret : Option FieldType}
    (hown : s.vm.findClass own = some m.cls) (hlink : (Cond.methodLink own index y).before args s = true) (hstat : (Cond.static y).before args s = true) (hinit : (Cond.initialized y.cls).before args s = true)
    (hcode : (Cond.code y bytes maxL ret).before args s = true) (hy : y.cls ≠ "java/lang/invoke/MethodHandle" ∧ y.cls ≠ "java/lang/invoke/VarHandle")
    {W9 : Nat} {Pre : Pt → Array Value → Prop} {Post : Pt → Array Value → Option Value → Pt → Prop} {PostX : Pt → Array Value → Addr → Pt → Prop} (hK : vx_Back l R p e below s args y 3 W9 Pre Post PostX)
    {g : JFrame} (hg : g.method = m) (hsize : g.locals.size = c.maxLocals) {argsL rest : List Value} (hlen : ∀ sig, parseMethodDescriptor y.desc = some sig → argsL.length = sig.parameters.length)
    (hstack : g.stack = argsL.reverse ++ rest) (hW : 2 * g.monitorRoom + (rest.map fun v => v.category).sum ≤ W9) (hdg : decode c.code g.pc = .ok (.invokestatic index, 3))
    (hpre : ∀ vm₁, s.WarmedH vm₁ → Pre ⟨T.setVm vm₁, locs, cells, slots⟩ argsL.toArray) :
    (∃ (v : Option Value) (vm₁ : Vm) (B : Pt), s.WarmedH vm₁ ∧ Stand p l e R s m args below meth c B.U B.locs B.cells B.slots ∧ Post ⟨T.setVm vm₁, locs, cells, slots⟩ argsL.toArray v B ∧
      ∀ target, Steps p.tables e below (B.U.setTop { g with pc := g.pc + 3, stack := v.toList ++ rest }) target → Steps p.tables e below (T.setTop g) target) ∨
    (∃ (q : Addr) (vm₁ : Vm) (B : Pt), s.WarmedH vm₁ ∧ Stand p l e R s m args below meth c B.U B.locs B.cells B.slots ∧ PostX ⟨T.setVm vm₁, locs, cells, slots⟩ argsL.toArray q B ∧
      Steps p.tables e below (T.setTop g) ((B.U.setTop { g with stack := rest }).pushFrame (.throwing q))) := by
  obtain ⟨mk, hnamed⟩ := Cond.code_named hcode
  obtain ⟨methM, cM, hmethM, -, -, -, -, -, -, hsigM⟩ := Cond.code_spec hnamed hcode
  have hstatic : methM.isStatic = true := Cond.static_spec hnamed hmethM hstat
  obtain ⟨kP, hkP, -⟩ := className_of_methodNamed hnamed
  have hinitP : kP.init = .initialized := Cond.initialized_spec (findClass_of_methodNamed hnamed) hkP hinit
  obtain ⟨vm₁, X₁, hstep₁⟩ := X.invokestatic hexec hown hlink hnamed hmethM hstatic hkP hinitP hy (g := g) hg (argsL := argsL) (rest := rest) (hlen _ hsigM) hstack hdg
  rcases hK m meth c ⟨T.setVm vm₁, locs, cells, slots⟩ { g with stack := rest } (.invokestatic index) mk argsL.toArray X₁ hg hsize hdg hW (X₁.named hnamed) (hpre vm₁ X₁.warmed) with ⟨v, B, X', hpost, hsteps⟩ | ⟨q, B, X', hpost, hsteps⟩
  · exact Or.inl ⟨v, vm₁, B, X₁.warmed, X', hpost, fun target h => hstep₁ _ fun acts => by rw [doInvoke_state]; exact hsteps.trans h⟩
  · exact Or.inr ⟨q, vm₁, B, X₁.warmed, X', hpost, hstep₁ _ fun acts => by rw [doInvoke_state]; exact hsteps⟩
end Calls
theorem vx_cls {s : State} {T : State} {vm₁ : Vm} {E : String} {k : ClassId} (hW : s.WarmedH vm₁) (h : (T.setVm vm₁).vm.findClass E = some k) : s.vm.findClass E = some k := by
  have h1 : vm₁.findClass E = some k := h
  rw [hW.alike.findClass] at h1
  exact h1
/-- the method's frame g, with q thrown over it -/
def vx_W (p : Program) (l : Launch) (e : Env) (R : Room) (s : State) (m : MethodId) (args : Array Value) (below : List Frame) (meth : Method) (c : Code) (H : Heap) (locs : List Loc) (cells slots : Nat) (Q : State → Prop) (g : JFrame) (q : Addr) : Prop :=
  ∀ T : State, T.heap = H → Stand p l e R s m args below meth c T locs cells slots → ∃ t, Steps p.tables e below ((T.setTop g).pushFrame (.throwing q)) t ∧ Q t
def vx_Run (p : Program) (l : Launch) (e : Env) (R : Room) (s : State) (m : MethodId) (args : Array Value) (below : List Frame) (meth : Method) (c : Code) (H : Heap) (locs : List Loc) (cells slots mc ms : Nat) (g : JFrame) (rest : List Value) (Qa : State → Outcome → State → Prop) (XC : String → State → State → Prop) (free : Addr → Prop) : Prop :=
  ∀ T : State, T.heap = H → Stand p l e R s m args below meth c T locs cells slots →
    (∃ (v : Option Value) (st₀ t T' : State) (L : List Loc), st₀.heap = H ∧ Stand p l e R s m args below meth c T' (locs ++ L) (cells + mc) (slots + ms) ∧ (∀ q ∈ L, free q.base) ∧ T'.heap = t.heap ∧ T'.vm = t.vm ∧ Qa st₀ (.returned v) t ∧
      Goes p e below T g T' { g with pc := g.pc + 3, stack := v.toList ++ rest }) ∨
    (∃ (q : Addr) (st₀ t T' : State) (L : List Loc) (E : String) (ce : Cell), st₀.heap = H ∧ Stand p l e R s m args below meth c T' (locs ++ L) (cells + mc) (slots + ms) ∧ (∀ z ∈ L, free z.base) ∧ T'.heap = t.heap ∧ T'.vm = t.vm ∧ XC E st₀ t ∧ t.heap[q]? = some ce ∧ ce.vm = .none ∧ s.vm.findClass E = some ce.cls ∧
      Steps p.tables e below (T.setTop g) ((T'.setTop { g with stack := rest }).pushFrame (.throwing q)))
def vx_X {S : Type} (px : S → Prop) (B : String → S → State → Prop) (A : Nat → Prop) : String → State → State → Prop := fun E st t => ∃ u : S, px u ∧ B E u t ∧ va_F A st t
section Runs
variable {p : Program} {l : Launch} {e : Env} {R : Room} {s : State} {m : MethodId} {args : Array Value} {below : List Frame} {meth : Method} {c : Code} {H : Heap} {locs : List Loc} {cells slots : Nat}
variable {y : MethodName} {bytes cc : ByteArray} {maxL nL mc ms n index : Nat} {ret : Option FieldType} {ws : List Cond} {rm : Room} {Pc : Array Value → State → Prop} {Qc : Array Value → State → Outcome → State → Prop} {XC : String → State → State → Prop} {free : Addr → Prop} {Ts : List Cond} {own C : String} {b : Addr} {As rest : List Value} {g : JFrame}
theorem vx_callBack (cb : CallB R s args own index y bytes maxL ret ws rm mc ms n) (hM : vx_Met l y ws rm Pc Qc XC mc ms free) (hbl : FrameBlind Pc) : vx_Back l R p e below s args y 3 8 (PreOf R mc ms Pc) (PostOf Qc mc ms free) (vx_Post XC mc ms free) := by
  obtain ⟨hrc, hrs, hfr, hlo, hws, hcw, -, hini, -⟩ := cb
  exact vx_back (bytes := bytes) (maxL := maxL) (ret := ret) hM hbl hrc hrs hfr hlo hws hcw (fun a' U hW => word_at hW (Or.inl (by first | rfl | simp [Cond.onTables, Cond.keeps, Cond.steady])) hini)
theorem vx_runV (S : CallFix p m c cc nL s args Ts own) (hM : vx_Met l y ws rm Pc Qc XC mc ms free) (cw : CallW R s args own C index y bytes maxL ret ws rm mc ms n) (hp : PreV s H C b Pc As)
    (hg : g.method = m) (hn : As.length = n) (hsize : g.locals.size = nL) (hstack : g.stack = As.reverse ++ .ref b :: rest) (hW : 2 * g.monitorRoom + (rest.map fun v => v.category).sum ≤ 8) (hdg : decode cc g.pc = .ok (.invokevirtual index, 3)) (hf : cells + mc ≤ R.cells ∧ slots + ms ≤ R.slots) :
    vx_Run p l e R s m args below meth c H locs cells slots mc ms g rest (Qc (Value.ref b :: As).toArray) XC free := by
  have hK : vx_Back l R p e below s args y 3 8 (PreOf R mc ms Pc) (PostOf Qc mc ms free) (vx_Post XC mc ms free) := vx_callBack cw.1 hM hp.1
  obtain ⟨⟨-, -, -, -, -, -, hcode, -, hy, hlen, hl⟩, hin, hse⟩ := cw
  obtain ⟨hx, hb, hml, ho, -⟩ := S
  obtain ⟨-, ⟨cellB, hcB, hoB, hclB⟩, hPc⟩ := hp
  intro T hT X
  rcases vx_callV X hx (C := C) (bytes := bytes) (maxL := maxL) (ret := ret) ho hl hin hse hcode hy hK (by rw [hT]; exact hcB) hoB hclB hg (hsize.trans hml.symm) (argsL := As) (rest := rest) (fun sig h => hn.trans (hlen sig h)) hstack hW (by rw [hb]; exact hdg)
    (fun vm₁ hW₁ => ⟨hf.1, hf.2, hPc (T.setVm vm₁) hT hW₁⟩) with ⟨v, vm₁, ⟨U', l2, c2, s2⟩, hW₁, X', ⟨g', mk, t, L, e1, e2, hq, h1, hL, h2, h3⟩, st⟩ | ⟨q, vm₁, ⟨U', l2, c2, s2⟩, hW₁, X', ⟨g', mk, t, L, E, ce, e1, e2, hq, hce, hcv, hcl, h1, hL, h2, h3⟩, st⟩
  · dsimp only [Pt.U, Pt.locs, Pt.cells, Pt.slots] at X' e1 e2 h1 h2 h3 st
    subst h1; subst h2; subst h3
    exact Or.inl ⟨v, (T.setVm vm₁).calling g' mk (Value.ref b :: As).toArray, t, U', L, hT, X', hL, e1, e2, hq, st⟩
  · dsimp only [Pt.U, Pt.locs, Pt.cells, Pt.slots] at X' e1 e2 h1 h2 h3 st hcl
    subst h1; subst h2; subst h3
    exact Or.inr ⟨q, (T.setVm vm₁).calling g' mk (Value.ref b :: As).toArray, t, U', L, E, ce, hT, X', hL, e1, e2, hq, hce, hcv, vx_cls hW₁ hcl, st⟩
theorem vx_runS (S : CallFix p m c cc nL s args Ts own) (hM : vx_Met l y ws rm Pc Qc XC mc ms free) (cw : CallB R s args own index y bytes maxL ret ws rm mc ms n ∧ (Cond.static y).before args s = true) (hp : PreS s H Pc As)
    (hg : g.method = m) (hn : As.length = n) (hsize : g.locals.size = nL) (hstack : g.stack = As.reverse ++ rest) (hW : 2 * g.monitorRoom + (rest.map fun v => v.category).sum ≤ 8) (hdg : decode cc g.pc = .ok (.invokestatic index, 3)) (hf : cells + mc ≤ R.cells ∧ slots + ms ≤ R.slots) :
    vx_Run p l e R s m args below meth c H locs cells slots mc ms g rest (Qc As.toArray) XC free := by
  have hK : vx_Back l R p e below s args y 3 8 (PreOf R mc ms Pc) (PostOf Qc mc ms free) (vx_Post XC mc ms free) := vx_callBack cw.1 hM hp.1
  obtain ⟨⟨-, -, -, -, -, -, hcode, hini, hy, hlen, hl⟩, hstt⟩ := cw
  obtain ⟨hx, hb, hml, ho, -⟩ := S
  intro T hT X
  rcases vx_callS X hx (bytes := bytes) (maxL := maxL) (ret := ret) ho hl hstt hini hcode hy hK hg (hsize.trans hml.symm) (argsL := As) (rest := rest) (fun sig h => hn.trans (hlen sig h)) hstack hW (by rw [hb]; exact hdg)
    (fun vm₁ hW₁ => ⟨hf.1, hf.2, hp.2 (T.setVm vm₁) hT hW₁⟩) with ⟨v, vm₁, ⟨U', l2, c2, s2⟩, hW₁, X', ⟨g', mk, t, L, e1, e2, hq, h1, hL, h2, h3⟩, st⟩ | ⟨q, vm₁, ⟨U', l2, c2, s2⟩, hW₁, X', ⟨g', mk, t, L, E, ce, e1, e2, hq, hce, hcv, hcl, h1, hL, h2, h3⟩, st⟩
  · dsimp only [Pt.U, Pt.locs, Pt.cells, Pt.slots] at X' e1 e2 h1 h2 h3 st
    subst h1; subst h2; subst h3
    exact Or.inl ⟨v, (T.setVm vm₁).calling g' mk As.toArray, t, U', L, hT, X', hL, e1, e2, hq, st⟩
  · dsimp only [Pt.U, Pt.locs, Pt.cells, Pt.slots] at X' e1 e2 h1 h2 h3 st hcl
    subst h1; subst h2; subst h3
    exact Or.inr ⟨q, (T.setVm vm₁).calling g' mk As.toArray, t, U', L, E, ce, hT, X', hL, e1, e2, hq, hce, hcv, vx_cls hW₁ hcl, st⟩
end Runs
section Rows
variable {p : Program} {l : Launch} {e : Env} {R : Room} {s : State} {m : MethodId} {args : Array Value} {below : List Frame} {meth : Method} {c : Code} {H : Heap} {locs : List Loc} {cells slots : Nat} {Q : State → Prop}
variable {mc ms : Nat} {free : Addr → Prop} {A0 A1 : Nat → Prop} {H0 : Heap} {a : Array Value} {pc : Nat} {ls : Array Slot} {st0 rest : List Value}
theorem vx_keep {st₀ t T' : State} {L : List Loc} (h0 : st₀.heap = H) (e1 : T'.heap = t.heap) (hS : va_S A0 H0 H locs) (hA : ∀ q, q < H.size → A1 q → A0 q) (hf : ∀ q, free q → A0 q) (hL : ∀ q ∈ L, free q.base) (hF : va_F A1 st₀ t) :
    H.size ≤ T'.heap.size ∧ (∀ q : Nat, q < H.size → ¬ A1 q → T'.heap[q]? = H[q]?) ∧ va_S A0 H0 T'.heap (locs ++ L) := by
  obtain ⟨hz, hk⟩ := hF
  rw [h0] at hz hk
  exact ⟨by rw [e1]; exact hz, fun q h1 h2 => by rw [e1]; exact hk q h1 h2,
    ⟨Nat.le_trans hS.1 (by rw [e1]; exact hz), fun q h1 h2 => by rw [e1, hk q (Nat.lt_of_lt_of_le h1 hS.1) (fun z => h2 (hA q (Nat.lt_of_lt_of_le h1 hS.1) z))]; exact hS.2.1 q h1 h2, fun q hq => by
      rcases List.mem_append.mp hq with h | h
      · exact hS.2.2 q h
      · exact hf _ (hL q h)⟩⟩
theorem vx_calli {S SX : Type} {post : Int32 → S → Prop} {px : SX → Prop} {B : S → State → Prop} {BX : String → SX → State → Prop} {AX : Nat → Prop} (hr : vx_Run p l e R s m args below meth c H locs cells slots mc ms (F0 m pc ls st0) rest (va_Qi post B A1 a) (vx_X px BX AX) free) (hS : va_S A0 H0 H locs) (hA : ∀ q, q < H.size → A1 q → A0 q) (hf : ∀ q, free q → A0 q) (hAX : ∀ q, q < H.size → AX q → A0 q)
    (kx : ∀ (E : String) (ce : Cell) (q9 : Addr) (u : SX) (t : State) (H1 : Heap) (locs1 : List Loc), t.heap = H1 → s.vm.Alike t.vm → px u → BX E u t → H.size ≤ H1.size → (∀ q : Nat, q < H.size → ¬ AX q → H1[q]? = H[q]?) → va_S A0 H0 H1 locs1 → H1[q9]? = some ce → ce.vm = .none → s.vm.findClass E = some ce.cls → vx_W p l e R s m args below meth c H1 locs1 (cells + mc) (slots + ms) Q (F0 m pc ls rest) q9)
    (kk : ∀ (r : Int32) (u : S) (t : State) (H1 : Heap) (locs1 : List Loc), t.heap = H1 → s.vm.Alike t.vm → post r u → B u t → H.size ≤ H1.size → (∀ q : Nat, q < H.size → ¬ A1 q → H1[q]? = H[q]?) → va_S A0 H0 H1 locs1 → W p l e R s m args below meth c H1 locs1 (cells + mc) (slots + ms) Q (F0 m (pc + 3) ls (.int r :: rest))) : W p l e R s m args below meth c H locs cells slots Q (F0 m pc ls st0) := by
  intro T hT X
  rcases hr T hT X with ⟨v, st₀, t, T', L, h0, X', hL, e1, e2, ⟨⟨r, u, hv, hp, hb⟩, hF⟩, st⟩ | ⟨q, st₀, t, T', L, E, ce, h0, X', hL, e1, e2, ⟨u, hp, hb, hF⟩, hce, hcv, hcl, st⟩
  · cases hv
    obtain ⟨k1, k2, k3⟩ := vx_keep h0 e1 hS hA hf hL hF
    obtain ⟨t2, a1, b1⟩ := kk r u t T'.heap (locs ++ L) e1.symm (by rw [← e2]; exact X'.warmed.alike) hp hb k1 k2 k3 T' rfl X'
    exact ⟨t2, st t2 a1, b1⟩
  · obtain ⟨k1, k2, k3⟩ := vx_keep h0 e1 hS hAX hf hL hF
    obtain ⟨t2, a1, b1⟩ := kx E ce q u t T'.heap (locs ++ L) e1.symm (by rw [← e2]; exact X'.warmed.alike) hp hb k1 k2 k3 (by rw [e1]; exact hce) hcv hcl T' rfl X'
    exact ⟨t2, st.trans a1, b1⟩
theorem vx_calll {S SX : Type} {post : Int64 → S → Prop} {px : SX → Prop} {B : S → State → Prop} {BX : String → SX → State → Prop} {AX : Nat → Prop} (hr : vx_Run p l e R s m args below meth c H locs cells slots mc ms (F0 m pc ls st0) rest (va_Ql post B A1 a) (vx_X px BX AX) free) (hS : va_S A0 H0 H locs) (hA : ∀ q, q < H.size → A1 q → A0 q) (hf : ∀ q, free q → A0 q) (hAX : ∀ q, q < H.size → AX q → A0 q)
    (kx : ∀ (E : String) (ce : Cell) (q9 : Addr) (u : SX) (t : State) (H1 : Heap) (locs1 : List Loc), t.heap = H1 → s.vm.Alike t.vm → px u → BX E u t → H.size ≤ H1.size → (∀ q : Nat, q < H.size → ¬ AX q → H1[q]? = H[q]?) → va_S A0 H0 H1 locs1 → H1[q9]? = some ce → ce.vm = .none → s.vm.findClass E = some ce.cls → vx_W p l e R s m args below meth c H1 locs1 (cells + mc) (slots + ms) Q (F0 m pc ls rest) q9)
    (kk : ∀ (r : Int64) (u : S) (t : State) (H1 : Heap) (locs1 : List Loc), t.heap = H1 → s.vm.Alike t.vm → post r u → B u t → H.size ≤ H1.size → (∀ q : Nat, q < H.size → ¬ A1 q → H1[q]? = H[q]?) → va_S A0 H0 H1 locs1 → W p l e R s m args below meth c H1 locs1 (cells + mc) (slots + ms) Q (F0 m (pc + 3) ls (.long r :: rest))) : W p l e R s m args below meth c H locs cells slots Q (F0 m pc ls st0) := by
  intro T hT X
  rcases hr T hT X with ⟨v, st₀, t, T', L, h0, X', hL, e1, e2, ⟨⟨r, u, hv, hp, hb⟩, hF⟩, st⟩ | ⟨q, st₀, t, T', L, E, ce, h0, X', hL, e1, e2, ⟨u, hp, hb, hF⟩, hce, hcv, hcl, st⟩
  · cases hv
    obtain ⟨k1, k2, k3⟩ := vx_keep h0 e1 hS hA hf hL hF
    obtain ⟨t2, a1, b1⟩ := kk r u t T'.heap (locs ++ L) e1.symm (by rw [← e2]; exact X'.warmed.alike) hp hb k1 k2 k3 T' rfl X'
    exact ⟨t2, st t2 a1, b1⟩
  · obtain ⟨k1, k2, k3⟩ := vx_keep h0 e1 hS hAX hf hL hF
    obtain ⟨t2, a1, b1⟩ := kx E ce q u t T'.heap (locs ++ L) e1.symm (by rw [← e2]; exact X'.warmed.alike) hp hb k1 k2 k3 (by rw [e1]; exact hce) hcv hcl T' rfl X'
    exact ⟨t2, st.trans a1, b1⟩
theorem vx_callf {S SX : Type} {post : UInt32 → S → Prop} {px : SX → Prop} {B : S → State → Prop} {BX : String → SX → State → Prop} {AX : Nat → Prop} (hr : vx_Run p l e R s m args below meth c H locs cells slots mc ms (F0 m pc ls st0) rest (va_Qf post B A1 a) (vx_X px BX AX) free) (hS : va_S A0 H0 H locs) (hA : ∀ q, q < H.size → A1 q → A0 q) (hf : ∀ q, free q → A0 q) (hAX : ∀ q, q < H.size → AX q → A0 q)
    (kx : ∀ (E : String) (ce : Cell) (q9 : Addr) (u : SX) (t : State) (H1 : Heap) (locs1 : List Loc), t.heap = H1 → s.vm.Alike t.vm → px u → BX E u t → H.size ≤ H1.size → (∀ q : Nat, q < H.size → ¬ AX q → H1[q]? = H[q]?) → va_S A0 H0 H1 locs1 → H1[q9]? = some ce → ce.vm = .none → s.vm.findClass E = some ce.cls → vx_W p l e R s m args below meth c H1 locs1 (cells + mc) (slots + ms) Q (F0 m pc ls rest) q9)
    (kk : ∀ (r : UInt32) (u : S) (t : State) (H1 : Heap) (locs1 : List Loc), t.heap = H1 → s.vm.Alike t.vm → post r u → B u t → H.size ≤ H1.size → (∀ q : Nat, q < H.size → ¬ A1 q → H1[q]? = H[q]?) → va_S A0 H0 H1 locs1 → W p l e R s m args below meth c H1 locs1 (cells + mc) (slots + ms) Q (F0 m (pc + 3) ls (.float r :: rest))) : W p l e R s m args below meth c H locs cells slots Q (F0 m pc ls st0) := by
  intro T hT X
  rcases hr T hT X with ⟨v, st₀, t, T', L, h0, X', hL, e1, e2, ⟨⟨r, u, hv, hp, hb⟩, hF⟩, st⟩ | ⟨q, st₀, t, T', L, E, ce, h0, X', hL, e1, e2, ⟨u, hp, hb, hF⟩, hce, hcv, hcl, st⟩
  · cases hv
    obtain ⟨k1, k2, k3⟩ := vx_keep h0 e1 hS hA hf hL hF
    obtain ⟨t2, a1, b1⟩ := kk r u t T'.heap (locs ++ L) e1.symm (by rw [← e2]; exact X'.warmed.alike) hp hb k1 k2 k3 T' rfl X'
    exact ⟨t2, st t2 a1, b1⟩
  · obtain ⟨k1, k2, k3⟩ := vx_keep h0 e1 hS hAX hf hL hF
    obtain ⟨t2, a1, b1⟩ := kx E ce q u t T'.heap (locs ++ L) e1.symm (by rw [← e2]; exact X'.warmed.alike) hp hb k1 k2 k3 (by rw [e1]; exact hce) hcv hcl T' rfl X'
    exact ⟨t2, st.trans a1, b1⟩
theorem vx_calld {S SX : Type} {post : UInt64 → S → Prop} {px : SX → Prop} {B : S → State → Prop} {BX : String → SX → State → Prop} {AX : Nat → Prop} (hr : vx_Run p l e R s m args below meth c H locs cells slots mc ms (F0 m pc ls st0) rest (va_Qd post B A1 a) (vx_X px BX AX) free) (hS : va_S A0 H0 H locs) (hA : ∀ q, q < H.size → A1 q → A0 q) (hf : ∀ q, free q → A0 q) (hAX : ∀ q, q < H.size → AX q → A0 q)
    (kx : ∀ (E : String) (ce : Cell) (q9 : Addr) (u : SX) (t : State) (H1 : Heap) (locs1 : List Loc), t.heap = H1 → s.vm.Alike t.vm → px u → BX E u t → H.size ≤ H1.size → (∀ q : Nat, q < H.size → ¬ AX q → H1[q]? = H[q]?) → va_S A0 H0 H1 locs1 → H1[q9]? = some ce → ce.vm = .none → s.vm.findClass E = some ce.cls → vx_W p l e R s m args below meth c H1 locs1 (cells + mc) (slots + ms) Q (F0 m pc ls rest) q9)
    (kk : ∀ (r : UInt64) (u : S) (t : State) (H1 : Heap) (locs1 : List Loc), t.heap = H1 → s.vm.Alike t.vm → post r u → B u t → H.size ≤ H1.size → (∀ q : Nat, q < H.size → ¬ A1 q → H1[q]? = H[q]?) → va_S A0 H0 H1 locs1 → W p l e R s m args below meth c H1 locs1 (cells + mc) (slots + ms) Q (F0 m (pc + 3) ls (.double r :: rest))) : W p l e R s m args below meth c H locs cells slots Q (F0 m pc ls st0) := by
  intro T hT X
  rcases hr T hT X with ⟨v, st₀, t, T', L, h0, X', hL, e1, e2, ⟨⟨r, u, hv, hp, hb⟩, hF⟩, st⟩ | ⟨q, st₀, t, T', L, E, ce, h0, X', hL, e1, e2, ⟨u, hp, hb, hF⟩, hce, hcv, hcl, st⟩
  · cases hv
    obtain ⟨k1, k2, k3⟩ := vx_keep h0 e1 hS hA hf hL hF
    obtain ⟨t2, a1, b1⟩ := kk r u t T'.heap (locs ++ L) e1.symm (by rw [← e2]; exact X'.warmed.alike) hp hb k1 k2 k3 T' rfl X'
    exact ⟨t2, st t2 a1, b1⟩
  · obtain ⟨k1, k2, k3⟩ := vx_keep h0 e1 hS hAX hf hL hF
    obtain ⟨t2, a1, b1⟩ := kx E ce q u t T'.heap (locs ++ L) e1.symm (by rw [← e2]; exact X'.warmed.alike) hp hb k1 k2 k3 (by rw [e1]; exact hce) hcv hcl T' rfl X'
    exact ⟨t2, st.trans a1, b1⟩
theorem vx_callv {S SX : Type} {post : S → Prop} {px : SX → Prop} {B : S → State → Prop} {BX : String → SX → State → Prop} {AX : Nat → Prop} (hr : vx_Run p l e R s m args below meth c H locs cells slots mc ms (F0 m pc ls st0) rest (va_Qv post B A1 a) (vx_X px BX AX) free) (hS : va_S A0 H0 H locs) (hA : ∀ q, q < H.size → A1 q → A0 q) (hf : ∀ q, free q → A0 q) (hAX : ∀ q, q < H.size → AX q → A0 q)
    (kx : ∀ (E : String) (ce : Cell) (q9 : Addr) (u : SX) (t : State) (H1 : Heap) (locs1 : List Loc), t.heap = H1 → s.vm.Alike t.vm → px u → BX E u t → H.size ≤ H1.size → (∀ q : Nat, q < H.size → ¬ AX q → H1[q]? = H[q]?) → va_S A0 H0 H1 locs1 → H1[q9]? = some ce → ce.vm = .none → s.vm.findClass E = some ce.cls → vx_W p l e R s m args below meth c H1 locs1 (cells + mc) (slots + ms) Q (F0 m pc ls rest) q9)
    (kk : ∀ (u : S) (t : State) (H1 : Heap) (locs1 : List Loc), t.heap = H1 → s.vm.Alike t.vm → post u → B u t → H.size ≤ H1.size → (∀ q : Nat, q < H.size → ¬ A1 q → H1[q]? = H[q]?) → va_S A0 H0 H1 locs1 → W p l e R s m args below meth c H1 locs1 (cells + mc) (slots + ms) Q (F0 m (pc + 3) ls (rest))) : W p l e R s m args below meth c H locs cells slots Q (F0 m pc ls st0) := by
  intro T hT X
  rcases hr T hT X with ⟨v, st₀, t, T', L, h0, X', hL, e1, e2, ⟨⟨u, hv, hp, hb⟩, hF⟩, st⟩ | ⟨q, st₀, t, T', L, E, ce, h0, X', hL, e1, e2, ⟨u, hp, hb, hF⟩, hce, hcv, hcl, st⟩
  · cases hv
    obtain ⟨k1, k2, k3⟩ := vx_keep h0 e1 hS hA hf hL hF
    obtain ⟨t2, a1, b1⟩ := kk u t T'.heap (locs ++ L) e1.symm (by rw [← e2]; exact X'.warmed.alike) hp hb k1 k2 k3 T' rfl X'
    exact ⟨t2, st t2 a1, b1⟩
  · obtain ⟨k1, k2, k3⟩ := vx_keep h0 e1 hS hAX hf hL hF
    obtain ⟨t2, a1, b1⟩ := kx E ce q u t T'.heap (locs ++ L) e1.symm (by rw [← e2]; exact X'.warmed.alike) hp hb k1 k2 k3 (by rw [e1]; exact hce) hcv hcl T' rfl X'
    exact ⟨t2, st.trans a1, b1⟩
/-- caught by the row x of this method's table; the rows ahead don't take it -/
theorem vx_catch {own name : String} {E : String} {ce : Cell} {q : Addr} (hown : s.vm.findClass own = some m.cls) (pre : List ExceptionTableEntry) (x : ExceptionTableEntry) (suf : List ExceptionTableEntry) (hsplit : c.exceptionTable.toList = pre ++ x :: suf)
    (hpass : ∀ z ∈ pre, covers z pc = false ∨ (z.catchType ≠ 0 ∧ ∃ nm : String, (Cond.classLink own z.catchType nm).before args s = true ∧ va_Nc E nm s)) (hx : covers x pc = true) (h0 : x.catchType ≠ 0)
    (hlink : (Cond.classLink own x.catchType name).before args s = true) (hcast : (Cond.castable E name).before args s = true) (hcell : H[q]? = some ce) (hv : ce.vm = .none) (hcl : s.vm.findClass E = some ce.cls)
    (kk : W p l e R s m args below meth c H locs cells slots Q (F0 m x.handlerPc ls [.ref q])) : vx_W p l e R s m args below meth c H locs cells slots Q (F0 m pc ls rest) q := by
  intro T hT X
  have hpl : e.platform.magicAccessors = ({} : Platform).magicAccessors := by rw [X.admits.platform]
  obtain ⟨c3, c4, hc3, hc4, hasg⟩ := Cond.castable_spec hcast
  cases Option.some.inj (hc3.symm.trans hcl)
  obtain ⟨c5, hc5, hcl5⟩ := Cond.classLink_spec hown hlink e.platform hpl
  cases Option.some.inj (hc4.symm.trans hc5)
  obtain ⟨vm', X', st⟩ := X.thenCaughtThrough q (g := F0 m pc ls rest) rfl (Steps.refl _) (by rw [hT]; exact hcell) (by rw [hv]; rfl) (by obtain ⟨k9, h9, -⟩ := Vm.findClass_spec hcl; exact ⟨k9, h9⟩) pre x suf hsplit
    (fun z hz => by
      rcases hpass z hz with h | ⟨hz0, nm, hl1, hn1⟩
      · exact Or.inl h
      · obtain ⟨c6, hc6, hcl6⟩ := Cond.classLink_spec hown hl1 e.platform hpl
        obtain ⟨a8, b8, h1, h2, h3⟩ := hn1
        cases Option.some.inj (h1.symm.trans hcl)
        cases Option.some.inj (h2.symm.trans hc6)
        exact Or.inr ⟨hz0, _, hcl6, h3⟩) hx (Or.inr ⟨h0, c4, hcl5, hasg⟩)
  obtain ⟨t, a1, b1⟩ := kk (T.setVm vm') hT X'
  exact ⟨t, st.trans a1, b1⟩
end Rows
section Ends
variable {p : Program} {l : Launch} {e : Env} {R : Room} {s : State} {m : MethodId} {args : Array Value} {below : List Frame} {meth : Method} {c : Code} {H : Heap} {locs : List Loc} {cells slots : Nat} {Q : State → Prop}
variable {mc ms : Nat} {free : Addr → Prop} {A0 A1 : Nat → Prop} {H0 : Heap} {a : Array Value} {ls : Array Slot} {st0 rest : List Value}
variable {Qc : Array Value → State → Outcome → State → Prop} {XC : String → State → State → Prop}
/-- what a body that may throw owes at its end -/
def vx_MQ (below : List Frame) (Qc : Array Value → State → Outcome → State → Prop) (XC : String → State → State → Prop) (a : Array Value) (s : State) (mc ms : Nat) (free : Addr → Prop) : State → Prop := fun t =>
  ∃ o, t.status = .running ∧ Ended t below o ∧ vx_Q Qc XC mc ms free a s o t
theorem vx_ret {g : JFrame} {mc ms : Nat} (k : W p l e R s m args below meth c H locs cells slots (MQ below Qc args s mc ms free) g) : W p l e R s m args below meth c H locs cells slots (vx_MQ below Qc XC args s mc ms free) g := by
  intro T hT X
  obtain ⟨t, a1, o, b1, b2, b3, b4⟩ := k T hT X
  exact ⟨t, a1, o, b1, b2, Or.inl ⟨b3, b4⟩⟩
/-- not caught here: it goes on to the caller -/
theorem vx_widen {g : JFrame} {q : Addr} {k n : Nat} (h1 : cells ≤ k) (h2 : slots ≤ n) (kk : vx_W p l e R s m args below meth c H locs k n Q g q) : vx_W p l e R s m args below meth c H locs cells slots Q g q := fun T hT X => kk T hT (stand_widen X h1 h2)
theorem vx_out {pc : Nat} {E : String} {ce : Cell} {q : Addr} {mc ms : Nat} (hout : ∀ x ∈ c.exceptionTable.toList, covers x pc = false) (hlocks : meth.locks = false) (hcell : H[q]? = some ce) (hv : ce.vm = .none) (hcl : s.vm.findClass E = some ce.cls)
    (hx : ∀ t : State, t.heap = H → s.vm.Alike t.vm → XC E s t) (hf : ∀ z ∈ locs, free z.base) (hc : cells ≤ mc) (hs : slots ≤ ms) :
    vx_W p l e R s m args below meth c H locs cells slots (vx_MQ below Qc XC args s mc ms free) (F0 m pc ls rest) q := by
  intro T hT X
  obtain ⟨st1, hrun, hend, hW, hsm⟩ := X.leaveThrown q (g := F0 m pc ls rest) rfl rfl rfl hout hlocks
  have hcell9 : (T.setFrames (.throwing q :: below)).heap[q]? = some ce := by
    show T.heap[q]? = some ce
    rw [hT]; exact hcell
  exact ⟨_, st1, .threw q, hrun, hend, Or.inr ⟨q, rfl, E, ce, locs, hx _ hT hW.alike, hcell9, hv, hcl, hW, hsm.mono hc hs, hf⟩⟩
theorem vx_frame {U : State} {k n : Nat} (h : s.sameButNew ({ U with vm := s.vm } : State) locs k n) : s.heap.size ≤ U.heap.size ∧ ∀ q : Nat, q < s.heap.size → (∀ z ∈ locs, z.base ≠ q) → U.heap[q]? = s.heap[q]? := by
  obtain ⟨-, h2, -, -, -, h6⟩ := h
  refine ⟨h2, fun q hq hz => ?_⟩
  obtain ⟨c9, e1, e2, e3, e4⟩ := h6 q _ (Array.getElem?_eq_getElem hq)
  have hs : c9.slots = (s.heap[q]).slots := Array.ext_getElem? fun i => e4 i fun hm => hz _ hm rfl
  have h9 : c9 = s.heap[q] := by
    rw [hs] at e2
    exact e2
  have e5 : U.heap[q]? = some c9 := e1
  rw [e5, h9, Array.getElem?_eq_getElem hq]
/-- the words of a throw but the four that speak of the heap -/
def vx_no (w : Cond) : Bool := decide (w ≠ .isRef (.static Bundle.tN "UNASSIGNED_STACK" Bundle.steD)) && decide (w ≠ .isRef (.static Bundle.tN "SUPPRESSED_SENTINEL" Bundle.listD)) && decide (w ≠ .laysStatic Bundle.tN "UNASSIGNED_STACK" Bundle.steD) && decide (w ≠ .laysStatic Bundle.tN "SUPPRESSED_SENTINEL" Bundle.listD)
def vx_at0 (own : String) (ic : Nat) (X : String) (names : List String) : List Cond := (Bundle.ownAtoms0 own ic X names).filter vx_no
def vx_atS (own : String) (ic : Nat) (X : String) (names : List String) : List Cond := (Bundle.ownAtoms own ic X names).filter vx_no
/-- a word that the tables alone decide, or a good one -/
def vx_ot (w : Cond) : Bool := w.onTables || goodWord w
theorem vx_ot_at {args a' : Array Value} {s U : State} {w : Cond} (hW : s.WarmedH U.vm) (hvm : s.vm = U.vm) (hg : vx_ot w = true) (h : w.before args s = true) : w.before a' U = true := by
  simp only [vx_ot, Bool.or_eq_true] at hg
  rcases hg with hg | hg
  · exact va_tabs hg hvm h
  · exact word_at hW (good_of_word hg) h
/-- a list's words: the good ones out of the method's own list, the others by premises of their own -/
theorem vx_hat {args : Array Value} {s : State} {L B : List Cond} (h1 : ∀ w ∈ L.filter goodWord, w.before args s = true) (h2 : ∀ w ∈ L.filter (fun w => !goodWord w), w ∈ B) (h3 : ∀ w ∈ B, w.before args s = true) : ∀ w ∈ L, w.before args s = true := by
  intro w hw
  by_cases g : goodWord w = true
  · exact h1 w (List.mem_filter.mpr ⟨hw, g⟩)
  · refine h3 w (h2 w (List.mem_filter.mpr ⟨hw, ?_⟩))
    show (!goodWord w) = true
    cases hgw : goodWord w
    · rfl
    · exact absurd hgw g
theorem vx_c {args : Array Value} {s : State} {w : Cond} {B : List Cond} (h : w.before args s = true) (t : ∀ w ∈ B, w.before args s = true) : ∀ w' ∈ w :: B, w'.before args s = true := fun w' h' => (List.mem_cons.mp h').elim (fun e => by rw [e]; exact h) (t w')
theorem vx_n {args : Array Value} {s : State} : ∀ w ∈ ([] : List Cond), w.before args s = true := fun _ h => nomatch h
theorem vx_own {args : Array Value} {s : State} {L : List Cond} (h1 : ∀ w ∈ L.filter vx_no, w.before args s = true)
    (hU : (Cond.isRef (.static Bundle.tN "UNASSIGNED_STACK" Bundle.steD)).before args s = true) (hN : (Cond.isRef (.static Bundle.tN "SUPPRESSED_SENTINEL" Bundle.listD)).before args s = true)
    (lU : (Cond.laysStatic Bundle.tN "UNASSIGNED_STACK" Bundle.steD).before args s = true) (lN : (Cond.laysStatic Bundle.tN "SUPPRESSED_SENTINEL" Bundle.listD).before args s = true) : ∀ w ∈ L, w.before args s = true := by
  intro w hw
  by_cases e1 : w = .isRef (.static Bundle.tN "UNASSIGNED_STACK" Bundle.steD)
  · rw [e1]; exact hU
  · by_cases e2 : w = .isRef (.static Bundle.tN "SUPPRESSED_SENTINEL" Bundle.listD)
    · rw [e2]; exact hN
    · by_cases e3 : w = .laysStatic Bundle.tN "UNASSIGNED_STACK" Bundle.steD
      · rw [e3]; exact lU
      · by_cases e4 : w = .laysStatic Bundle.tN "SUPPRESSED_SENTINEL" Bundle.listD
        · rw [e4]; exact lN
        · exact h1 w (List.mem_filter.mpr ⟨hw, by unfold vx_no; rw [decide_eq_true e1, decide_eq_true e2, decide_eq_true e3, decide_eq_true e4]; rfl⟩)
/-- where a static field lies, its class's statics cell in H -/
def vx_L (C n d : String) (A : Nat → Prop) (U : State) (H : Heap) : Prop := ∃ (c : ClassId) (k : Class) (i : Nat) (f : Field) (a : Nat) (cell : Cell), U.vm.findClass C = some c ∧ U.fieldFound? C n d = some (c, k, i, f) ∧ f.isStatic = true ∧ k.statics = some a ∧ H[a]? = some cell ∧ cell.vm.isStatics = true ∧ cell.cls = c ∧ f.slot < cell.slots.size ∧ k.staticTypes[f.slot]? = some f.type ∧ ¬ A a
theorem vx_L.moved {C n d : String} {A : Nat → Prop} {u U : State} {H : Heap} (hvm : u.vm.Alike U.vm) (h : vx_L C n d A u H) : vx_L C n d A U H := by
  obtain ⟨c, k, i, f, a, cell, h1, h2, h3, h4, h5, h6, h7, h8, h9, h10⟩ := h
  obtain ⟨k', hi', he⟩ := State.fieldFound?_setVm hvm h2
  exact ⟨c, k', i, f, a, cell, by rw [hvm.findClass]; exact h1, hi', h3, by rw [he]; exact h4, h5, h6, h7, h8, by rw [he]; exact h9, h10⟩
theorem vx_L.kept {C n d : String} {A : Nat → Prop} {U : State} {H H1 : Heap} (h : vx_L C n d A U H) (hq : ∀ a : Nat, a < H.size → ¬ A a → H1[a]? = H[a]?) : vx_L C n d A U H1 := by
  obtain ⟨c, k, i, f, a, cell, h1, h2, h3, h4, h5, h6, h7, h8, h9, h10⟩ := h
  exact ⟨c, k, i, f, a, cell, h1, h2, h3, h4, by rw [hq a (Array.getElem?_eq_some_iff.mp h5).1 h10]; exact h5, h6, h7, h8, h9, h10⟩
theorem vx_L.narrow {C n d : String} {A B : Nat → Prop} {U : State} {H : Heap} (h : vx_L C n d A U H) (hAB : ∀ q, B q → A q) : vx_L C n d B U H := by
  obtain ⟨c, k, i, f, a, cell, h1, h2, h3, h4, h5, h6, h7, h8, h9, h10⟩ := h
  exact ⟨c, k, i, f, a, cell, h1, h2, h3, h4, h5, h6, h7, h8, h9, fun z => h10 (hAB _ z)⟩
theorem vx_L.word {C n d : String} {A : Nat → Prop} {s : State} {args : Array Value} (h : vx_L C n d A s s.heap) : (Cond.laysStatic C n d).before args s = true := by
  obtain ⟨c, k, i, f, a, cell, h1, h2, h3, h4, h5, h6, h7, h8, h9, -⟩ := h
  show (Cond.laysStatic C n d).holds args s none s [] = true
  exact Cond.laysStatic_of h1 h2 h3 h4 h5 h6 h7 h8 h9
/-- .. and what it holds: null or some reference -/
def vx_Zq (C n d : String) (A : Nat → Prop) (U : State) (H : Heap) : Prop := va_Zq C n d A U H ∧ vx_L C n d A U H
theorem vx_Zq.moved {C n d : String} {A : Nat → Prop} {u U : State} {H : Heap} (hvm : u.vm.Alike U.vm) (h : vx_Zq C n d A u H) : vx_Zq C n d A U H := ⟨va_Zq.moved hvm h.1, vx_L.moved hvm h.2⟩
theorem vx_Zq.kept {C n d : String} {A : Nat → Prop} {U : State} {H H1 : Heap} (h : vx_Zq C n d A U H) (hq : ∀ a : Nat, a < H.size → ¬ A a → H1[a]? = H[a]?) : vx_Zq C n d A U H1 := ⟨va_Zq.kept h.1 hq, vx_L.kept h.2 hq⟩
theorem vx_Zq.narrow {C n d : String} {A B : Nat → Prop} {U : State} {H : Heap} (h : vx_Zq C n d A U H) (hAB : ∀ q, B q → A q) : vx_Zq C n d B U H := ⟨va_Zq.narrow h.1 hAB, vx_L.narrow h.2 hAB⟩
theorem vx_Zqof {args : Array Value} {s : State} {C n d : String} {A : Nat → Prop} (hl : (Cond.laysStatic C n d).before args s = true) (hini : (Cond.initialized C).before args s = true) (h : (Cond.isRef (.static C n d)).before args s = true) (hA : ∀ a : Nat, a < s.heap.size → ¬ A a) : vx_Zq C n d A s s.heap := by
  refine ⟨va_Zqof hl hini h hA, ?_⟩
  obtain ⟨c, k, i, f, a, cell, h1, h2, h3, h4, h5, h6, h7, h8, h9⟩ := Cond.laysStatic_spec hl
  exact ⟨c, k, i, f, a, cell, h1, h2, h3, h4, h5, h6, h7, h8, h9, hA a (Array.getElem?_eq_some_iff.mp h5).1⟩
theorem vx_isRef {C n d : String} {v : Value} {A : Nat → Prop} {s : State} {args : Array Value} (h : va_Z C n d v A s s.heap) (hv : v.isRef = true) : (Cond.isRef (.static C n d)).before args s = true := by
  obtain ⟨cf, kf, fi, f, a, cell, h1, h2, h3, h4, h5, h6, h7, -⟩ := h
  have he : (Term.static C n d).eval args s none [] s = some v := by
    simp [Term.eval, State.fieldNamed?, h1, h2, h4, h5, h6, h7]
  simp only [Cond.before, Cond.holds, Cond.value, he]
  cases v <;> simp_all [Value.isRef]
theorem vx_isRefq {C n d : String} {A : Nat → Prop} {s : State} {args : Array Value} (h : va_Zq C n d A s s.heap) : (Cond.isRef (.static C n d)).before args s = true := by
  rcases h with h | ⟨t, h⟩
  · exact vx_isRef h rfl
  · exact vx_isRef h rfl
/-- the same frame, seen from here: as if the method were called anew in this heap -/
theorem vx_rebase {T : State} (X : Stand p l e R s m args below meth c T locs cells slots) {R' : Room} (hf : R'.frames ≤ R.frames) (hl : R'.locals ≤ R.locals) (hc : cells + R'.cells ≤ R.cells) (hs : slots + R'.slots ≤ R.slots) :
    Stand p l e R' ((T.setVm s.vm).setFrames (.invoking m args :: below)) m args below meth c T [] 0 0 := by
  have htop : (T.setVm s.vm).topJava?.isSome := X.here.top
  have hF : ((T.setVm s.vm).setFrames (.invoking m args :: below)).frames = .invoking m args :: below := State.frames_setFrames _ (State.cur_lt_of_top htop)
  obtain ⟨g₀, hg0⟩ := Option.isSome_iff_exists.mp htop
  obtain ⟨r, hr⟩ := State.topJava?_eq_some.mp hg0
  have hl9 : e.platform.stackLimits (T.setVm s.vm).me = e.platform.stackLimits s.me := X.limits
  have hb9 : (T.setVm s.vm).me.stackBytes = s.me.stackBytes := X.bytes
  refine ⟨X.admits, X.cas, X.clock, hF, ?_, X.hears, X.method, X.code, X.here, X.tail, X.warmed, ?_, ?_, ?_⟩
  · have h := X.room
    have hU : ((T.setVm s.vm).setFrames (.invoking m args :: below)).localsInUse = s.localsInUse := by
      rw [State.localsInUse_invoking hF (meth := meth) (c := c) X.method X.code, State.localsInUse_invoking X.frames X.method X.code]
    simp only [State.hasRoom, Bool.and_eq_true, decide_eq_true_eq] at h ⊢
    obtain ⟨⟨⟨⟨h1, h2, h3, h4, h5, h6⟩, h7⟩, h8⟩, h9⟩ := h
    rw [X.frames, List.length_cons] at h2 h3
    have q1 := X.heapSize
    have q2 := X.used
    simp only [hF, hU, List.length_cons, State.stackLimits_setFrames, State.stackBytes_setFrames, hl9, hb9]
    refine ⟨⟨⟨⟨by omega, by omega, by omega, by omega, by omega, h6⟩, ?_⟩, ?_⟩, X.book⟩
    · show T.heap.size + R'.cells ≤ e.platform.maxCells
      omega
    · show T.slotsUsed + R'.slots ≤ e.platform.maxSlots
      omega
  · rw [State.stackLimits_setFrames]; rfl
  · rw [State.stackBytes_setFrames]; rfl
  · refine ⟨?_, Nat.le_refl _, Nat.le_refl _, ?_, ?_, fun a c9 h9 => ⟨c9, h9, rfl, rfl, fun _ _ => rfl⟩⟩
    · obtain ⟨t, ht, -⟩ := State.frames_cons hr
      show T.setVm s.vm = { ((T.setVm s.vm).setFrames (.invoking m args :: below)).setFrames (T.setVm s.vm).frames with heap := T.heap, slotsUsed := T.slotsUsed }
      rw [State.setFrames_setFrames, State.setFrames_self ht]
      rfl
    · show T.slotsUsed = T.slotsUsed + ((T.heap.toList.drop T.heap.size).map (·.slots.size)).sum
      rw [List.drop_eq_nil_of_le (Nat.le_of_eq Array.length_toList)]
      rfl
    · show ((T.heap.toList.drop T.heap.size).map (·.slots.size)).sum ≤ 0
      rw [List.drop_eq_nil_of_le (Nat.le_of_eq Array.length_toList)]
      exact Nat.le_refl _
/-- 'throw new E()': new; dup; invokespecial; athrow -/
theorem vx_throw0 {cc : ByteArray} {pc : Nat} (hexec : p.tables.exec = Jvm.exec) (hb : c.code = cc) (hl : l.stackTraces = false) {own cls : String} {names : List String} {ik ic mc ms : Nat} {A : Nat → Prop}
    (hown : s.vm.findClass own = some m.cls) (hcls : Bundle.fit cls = true) (hnames : ∀ n ∈ names, Bundle.fit n = true)
    (hk : (Cond.classLink own ik cls).before args s = true) (hini : (Cond.initialized cls).before args s = true) (hat : ∀ w ∈ vx_at0 own ic cls names, w.before args s = true)
    (hgood : ∀ w ∈ Cond.classLink own ik cls :: Cond.initialized cls :: vx_at0 own ic cls names, vx_ot w = true)
    (hU : vx_Zq Bundle.tN "UNASSIGNED_STACK" Bundle.steD A s s.heap) (hN : vx_Zq Bundle.tN "SUPPRESSED_SENTINEL" Bundle.listD A s s.heap) (hS : va_S A s.heap H locs) (hsize : ls.size = c.maxLocals)
    (d0 : decode cc pc = .ok (.new ik, 3)) (d3 : decode cc (pc + 3) = .ok (.dup, 1)) (d4 : decode cc (pc + 4) = .ok (.invokespecial ic, 3)) (d7 : decode cc (pc + 7) = .ok (.athrow, 1))
    (hout : ∀ x ∈ c.exceptionTable.toList, covers x (pc + 7) = false)
    (hRframes : names.length + 3 < R.frames) (hRlocals : (rest.map fun v => v.category).sum + (13 * (names.length + 1) + 42) ≤ R.locals) (hRcells : cells + 1 ≤ R.cells) (hRslots : slots + 6 ≤ R.slots) (hlocks : meth.locks = false)
    (hx : ∀ t : State, s.vm.Alike t.vm → H.size ≤ t.heap.size → (∀ q : Nat, q < H.size → t.heap[q]? = H[q]?) → XC cls s t)
    (hf : ∀ z ∈ locs, free z.base) (hc : cells + 1 ≤ mc) (hs : slots + 6 ≤ ms) :
    W p l e R s m args below meth c H locs cells slots (vx_MQ below Qc XC args s mc ms free) (F0 m pc ls rest) := by
  intro T hT X
  have htr : e.platform.stackTraces = false := (show e.platform.stackTraces = l.stackTraces by rw [X.admits.platform]).trans hl
  have Y := vx_rebase X (R' := { frames := R.frames, locals := R.locals, cells := 1, slots := 6 }) (Nat.le_refl _) (Nat.le_refl _) hRcells hRslots
  obtain ⟨s', hA⟩ : ∃ z, z = (T.setVm s.vm).setFrames (.invoking m args :: below) := ⟨_, rfl⟩
  rw [← hA] at Y
  have hvm : s'.vm = s.vm := by rw [hA]; rfl
  have hhp : s'.heap = H := by rw [hA]; exact hT
  have hW0 : s.WarmedH s'.vm := by rw [hvm]; exact State.WarmedH.refl s
  have hat' : ∀ w ∈ vx_at0 own ic cls names, w.before args s' = true := fun w hw => vx_ot_at hW0 hvm.symm (hgood w (List.mem_cons_of_mem _ (List.mem_cons_of_mem _ hw))) (hat w hw)
  have hk' : (Cond.classLink own ik cls).before args s' = true := vx_ot_at hW0 hvm.symm (hgood _ List.mem_cons_self) hk
  have hini' : (Cond.initialized cls).before args s' = true := vx_ot_at hW0 hvm.symm (hgood _ (List.mem_cons_of_mem _ List.mem_cons_self)) hini
  have hU' : vx_Zq Bundle.tN "UNASSIGNED_STACK" Bundle.steD A s' s'.heap := by rw [hhp]; exact vx_Zq.moved hW0.alike (hU.kept hS.2.1)
  have hN' : vx_Zq Bundle.tN "SUPPRESSED_SENTINEL" Bundle.listD A s' s'.heap := by rw [hhp]; exact vx_Zq.moved hW0.alike (hN.kept hS.2.1)
  have h : ∀ w ∈ Bundle.ownAtoms0 own ic cls names, w.before args s' = true := vx_own hat' (vx_isRefq hU'.1) (vx_isRefq hN'.1) hU'.2.word hN'.2.word
  have hown' : s'.vm.findClass own = some m.cls := by rw [hvm]; exact hown
  have hins : (Cond.instantiable cls 6).before args s' = true := h _ (by simp [Bundle.ownAtoms0])
  obtain ⟨vm₁, cX, kX, hfX, hkX, -, -, X₁, st1⟩ := Y.newCold hexec (own := own) (C := cls) (index := ik) (n := 6) hown' hk' hins hini'
    (g := F0 m pc ls rest) rfl (by rw [hb]; exact d0) (Nat.le_refl _) (Nat.le_refl _)
  generalize hT1 : (T.setVm vm₁).pushCell { cls := cX, slots := kX.instanceTypes.map defaultValue, vm := .none } = T1 at X₁ st1
  have hcat : (Value.ref T.heap.size).category = 1 := rfl
  have hcellA : T1.heap[T.heap.size]? = some (freshCell cX kX) := by rw [← hT1]; exact State.heap_pushCell_size _ _
  have d3' : decode c.code (pc + 3) = .ok (.dup, 1) := by rw [hb]; exact d3
  obtain ⟨U, hsteps, hrun, hend, hW, hsame, ce, hce, hO⟩ := X₁.ctorThrow0 hexec htr (own := own) (cls := cls) (names := names) (ic := ic) hown' hcls hnames h (fun x hx => nomatch hx) hfX hkX hcellA (by rw [hhp, hT]; exact Nat.le_refl _)
    (g := { method := m, pc := pc + 4, locals := ls, stack := .ref T.heap.size :: .ref T.heap.size :: rest, locked := none }) rfl hsize rfl rfl (rest := rest) rfl
    (by rw [hb]; exact d4) (by rw [hb]; exact d7) hout hRframes (by simp only [List.map_cons, List.sum_cons, hcat]; omega) hlocks
  obtain ⟨f1, f2⟩ := vx_frame hsame
  rw [hhp] at f1 f2
  have hWs : s.WarmedH U.vm := State.WarmedH.trans hW0 hW
  have hcl : s.vm.findClass cls = some ce.cls := by
    have h9 := hO.cls
    rw [hvm] at h9
    exact h9
  have hall : s.sameButNew ({ U with vm := s.vm } : State) locs mc ms := by
    subst hA
    obtain ⟨e1, e2⟩ := hsame
    rw [State.setFrames_setFrames] at e1
    have h2 : (T.setVm s.vm).sameButNew ({ U with vm := s.vm } : State) [] (0 + 1) (0 + 6) := ⟨e1, e2⟩
    have h3 := X.same.trans h2
    rw [List.append_nil] at h3
    exact h3.mono hc hs
  refine ⟨U, ?_, .threw T.heap.size, hrun, hend, Or.inr ⟨T.heap.size, rfl, cls, ce, locs, hx U hWs.alike f1 (fun q hq => f2 q hq (fun z hz => nomatch hz)), hce, hO.vm, hcl, hWs, hall, hf⟩⟩
  refine st1 _ ?_
  show Steps p.tables e below (T1.setTop { method := m, pc := pc + 3, locals := ls, stack := .ref T.heap.size :: rest, locked := none }) _
  jvm_step X₁.here [X₁.here.top, hexec, d3', Value.category]
  exact hsteps
/-- 'throw new E("text")': new; dup; ldc; invokespecial; athrow -/
theorem vx_throwS {cc : ByteArray} {pc : Nat} (hexec : p.tables.exec = Jvm.exec) (hb : c.code = cc) (hl : l.stackTraces = false) {own cls text : String} {names : List String} {ik is ic mc ms sa : Nat} {A : Nat → Prop}
    (hown : s.vm.findClass own = some m.cls) (hcls : Bundle.fit cls = true) (hnames : ∀ n ∈ names, Bundle.fit n = true)
    (hk : (Cond.classLink own ik cls).before args s = true) (hini : (Cond.initialized cls).before args s = true) (hstr : vk_R own is text sa s) (hat : ∀ w ∈ vx_atS own ic cls names, w.before args s = true)
    (hgood : ∀ w ∈ Cond.classLink own ik cls :: Cond.initialized cls :: vx_atS own ic cls names, vx_ot w = true)
    (hU : vx_Zq Bundle.tN "UNASSIGNED_STACK" Bundle.steD A s s.heap) (hN : vx_Zq Bundle.tN "SUPPRESSED_SENTINEL" Bundle.listD A s s.heap) (hS : va_S A s.heap H locs) (hsize : ls.size = c.maxLocals)
    (d0 : decode cc pc = .ok (.new ik, 3)) (d3 : decode cc (pc + 3) = .ok (.dup, 1)) (d4 : decode cc (pc + 4) = .ok (.ldc is, 2)) (d6 : decode cc (pc + 6) = .ok (.invokespecial ic, 3)) (d9 : decode cc (pc + 9) = .ok (.athrow, 1))
    (hout : ∀ x ∈ c.exceptionTable.toList, covers x (pc + 9) = false)
    (hRframes : names.length + 3 < R.frames) (hRlocals : (rest.map fun v => v.category).sum + (13 * (names.length + 1) + 43) ≤ R.locals) (hRcells : cells + 1 ≤ R.cells) (hRslots : slots + 6 ≤ R.slots) (hlocks : meth.locks = false)
    (hx : ∀ t : State, s.vm.Alike t.vm → H.size ≤ t.heap.size → (∀ q : Nat, q < H.size → t.heap[q]? = H[q]?) → XC cls s t)
    (hf : ∀ z ∈ locs, free z.base) (hc : cells + 1 ≤ mc) (hs : slots + 6 ≤ ms) :
    W p l e R s m args below meth c H locs cells slots (vx_MQ below Qc XC args s mc ms free) (F0 m pc ls rest) := by
  intro T hT X
  have htr : e.platform.stackTraces = false := (show e.platform.stackTraces = l.stackTraces by rw [X.admits.platform]).trans hl
  have Y := vx_rebase X (R' := { frames := R.frames, locals := R.locals, cells := 1, slots := 6 }) (Nat.le_refl _) (Nat.le_refl _) hRcells hRslots
  obtain ⟨s', hA⟩ : ∃ z, z = (T.setVm s.vm).setFrames (.invoking m args :: below) := ⟨_, rfl⟩
  rw [← hA] at Y
  have hvm : s'.vm = s.vm := by rw [hA]; rfl
  have hhp : s'.heap = H := by rw [hA]; exact hT
  have hW0 : s.WarmedH s'.vm := by rw [hvm]; exact State.WarmedH.refl s
  have hat' : ∀ w ∈ vx_atS own ic cls names, w.before args s' = true := fun w hw => vx_ot_at hW0 hvm.symm (hgood w (List.mem_cons_of_mem _ (List.mem_cons_of_mem _ hw))) (hat w hw)
  have hk' : (Cond.classLink own ik cls).before args s' = true := vx_ot_at hW0 hvm.symm (hgood _ List.mem_cons_self) hk
  have hini' : (Cond.initialized cls).before args s' = true := vx_ot_at hW0 hvm.symm (hgood _ (List.mem_cons_of_mem _ List.mem_cons_self)) hini
  have hU' : vx_Zq Bundle.tN "UNASSIGNED_STACK" Bundle.steD A s' s'.heap := by rw [hhp]; exact vx_Zq.moved hW0.alike (hU.kept hS.2.1)
  have hN' : vx_Zq Bundle.tN "SUPPRESSED_SENTINEL" Bundle.listD A s' s'.heap := by rw [hhp]; exact vx_Zq.moved hW0.alike (hN.kept hS.2.1)
  have h : ∀ w ∈ Bundle.ownAtoms own ic cls names, w.before args s' = true := vx_own hat' (vx_isRefq hU'.1) (vx_isRefq hN'.1) hU'.2.word hN'.2.word
  have hown' : s'.vm.findClass own = some m.cls := by rw [hvm]; exact hown
  have hins : (Cond.instantiable cls 6).before args s' = true := h _ (by simp [Bundle.ownAtoms])
  obtain ⟨vm₁, cX, kX, hfX, hkX, -, -, X₁, st1⟩ := Y.newCold hexec (own := own) (C := cls) (index := ik) (n := 6) hown' hk' hins hini'
    (g := F0 m pc ls rest) rfl (by rw [hb]; exact d0) (Nat.le_refl _) (Nat.le_refl _)
  generalize hT1 : (T.setVm vm₁).pushCell { cls := cX, slots := kX.instanceTypes.map defaultValue, vm := .none } = T1 at X₁ st1
  have hcat : (Value.ref T.heap.size).category = 1 := rfl
  have hcellA : T1.heap[T.heap.size]? = some (freshCell cX kX) := by rw [← hT1]; exact State.heap_pushCell_size _ _
  have d3' : decode c.code (pc + 3) = .ok (.dup, 1) := by rw [hb]; exact d3
  have d4' : decode c.code (pc + 4) = .ok (.ldc is, 2) := by rw [hb]; exact d4
  have hstr' : vk_R own is text sa s' := vk_R.warm hW0 hstr
  obtain ⟨U, hsteps, hrun, hend, hW, hsame, ce, hce, hO⟩ := X₁.ctorThrowS hexec htr (own := own) (cls := cls) (names := names) (ic := ic) hown' hcls hnames h (fun x hx => nomatch hx) hfX hkX hcellA (by rw [hhp, hT]; exact Nat.le_refl _) (msg := .ref sa) rfl
    (g := { method := m, pc := pc + 6, locals := ls, stack := .ref sa :: .ref T.heap.size :: .ref T.heap.size :: rest, locked := none }) rfl hsize rfl rfl (rest := rest) rfl
    (by rw [hb]; exact d6) (by rw [hb]; exact d9) hout hRframes (by simp only [List.map_cons, List.sum_cons, hcat]; omega) hlocks
  obtain ⟨f1, f2⟩ := vx_frame hsame
  rw [hhp] at f1 f2
  have hWs : s.WarmedH U.vm := State.WarmedH.trans hW0 hW
  have hcl : s.vm.findClass cls = some ce.cls := by
    have h9 := hO.cls
    rw [hvm] at h9
    exact h9
  have hall : s.sameButNew ({ U with vm := s.vm } : State) locs mc ms := by
    subst hA
    obtain ⟨e1, e2⟩ := hsame
    rw [State.setFrames_setFrames] at e1
    have h2 : (T.setVm s.vm).sameButNew ({ U with vm := s.vm } : State) [] (0 + 1) (0 + 6) := ⟨e1, e2⟩
    have h3 := X.same.trans h2
    rw [List.append_nil] at h3
    exact h3.mono hc hs
  refine ⟨U, ?_, .threw T.heap.size, hrun, hend, Or.inr ⟨T.heap.size, rfl, cls, ce, locs, hx U hWs.alike f1 (fun q hq => f2 q hq (fun z hz => nomatch hz)), hce, hO.vm, hcl, hWs, hall, hf⟩⟩
  refine st1 _ ?_
  show Steps p.tables e below (T1.setTop { method := m, pc := pc + 3, locals := ls, stack := .ref T.heap.size :: rest, locked := none }) _
  jvm_step X₁.here [X₁.here.top, hexec, d3', Value.category]
  exact X₁.ldcString hexec (own := own) (text := text) (index := is) (a := sa) hown' hstr'.1 hstr'.2
    (g := { method := m, pc := pc + 4, locals := ls, stack := .ref T.heap.size :: .ref T.heap.size :: rest, locked := none }) rfl d4' _ hsteps
/-- 'throw new E("text")', the text by a wide index -/
theorem vx_throwSW {cc : ByteArray} {pc : Nat} (hexec : p.tables.exec = Jvm.exec) (hb : c.code = cc) (hl : l.stackTraces = false) {own cls text : String} {names : List String} {ik is ic mc ms sa : Nat} {A : Nat → Prop}
    (hown : s.vm.findClass own = some m.cls) (hcls : Bundle.fit cls = true) (hnames : ∀ n ∈ names, Bundle.fit n = true)
    (hk : (Cond.classLink own ik cls).before args s = true) (hini : (Cond.initialized cls).before args s = true) (hstr : vk_R own is text sa s) (hat : ∀ w ∈ vx_atS own ic cls names, w.before args s = true)
    (hgood : ∀ w ∈ Cond.classLink own ik cls :: Cond.initialized cls :: vx_atS own ic cls names, vx_ot w = true)
    (hU : vx_Zq Bundle.tN "UNASSIGNED_STACK" Bundle.steD A s s.heap) (hN : vx_Zq Bundle.tN "SUPPRESSED_SENTINEL" Bundle.listD A s s.heap) (hS : va_S A s.heap H locs) (hsize : ls.size = c.maxLocals)
    (d0 : decode cc pc = .ok (.new ik, 3)) (d3 : decode cc (pc + 3) = .ok (.dup, 1)) (d4 : decode cc (pc + 4) = .ok (.ldc_w is, 3)) (d7 : decode cc (pc + 7) = .ok (.invokespecial ic, 3)) (d10 : decode cc (pc + 10) = .ok (.athrow, 1))
    (hout : ∀ x ∈ c.exceptionTable.toList, covers x (pc + 10) = false)
    (hRframes : names.length + 3 < R.frames) (hRlocals : (rest.map fun v => v.category).sum + (13 * (names.length + 1) + 43) ≤ R.locals) (hRcells : cells + 1 ≤ R.cells) (hRslots : slots + 6 ≤ R.slots) (hlocks : meth.locks = false)
    (hx : ∀ t : State, s.vm.Alike t.vm → H.size ≤ t.heap.size → (∀ q : Nat, q < H.size → t.heap[q]? = H[q]?) → XC cls s t)
    (hf : ∀ z ∈ locs, free z.base) (hc : cells + 1 ≤ mc) (hs : slots + 6 ≤ ms) :
    W p l e R s m args below meth c H locs cells slots (vx_MQ below Qc XC args s mc ms free) (F0 m pc ls rest) := by
  intro T hT X
  have htr : e.platform.stackTraces = false := (show e.platform.stackTraces = l.stackTraces by rw [X.admits.platform]).trans hl
  have Y := vx_rebase X (R' := { frames := R.frames, locals := R.locals, cells := 1, slots := 6 }) (Nat.le_refl _) (Nat.le_refl _) hRcells hRslots
  obtain ⟨s', hA⟩ : ∃ z, z = (T.setVm s.vm).setFrames (.invoking m args :: below) := ⟨_, rfl⟩
  rw [← hA] at Y
  have hvm : s'.vm = s.vm := by rw [hA]; rfl
  have hhp : s'.heap = H := by rw [hA]; exact hT
  have hW0 : s.WarmedH s'.vm := by rw [hvm]; exact State.WarmedH.refl s
  have hat' : ∀ w ∈ vx_atS own ic cls names, w.before args s' = true := fun w hw => vx_ot_at hW0 hvm.symm (hgood w (List.mem_cons_of_mem _ (List.mem_cons_of_mem _ hw))) (hat w hw)
  have hk' : (Cond.classLink own ik cls).before args s' = true := vx_ot_at hW0 hvm.symm (hgood _ List.mem_cons_self) hk
  have hini' : (Cond.initialized cls).before args s' = true := vx_ot_at hW0 hvm.symm (hgood _ (List.mem_cons_of_mem _ List.mem_cons_self)) hini
  have hU' : vx_Zq Bundle.tN "UNASSIGNED_STACK" Bundle.steD A s' s'.heap := by rw [hhp]; exact vx_Zq.moved hW0.alike (hU.kept hS.2.1)
  have hN' : vx_Zq Bundle.tN "SUPPRESSED_SENTINEL" Bundle.listD A s' s'.heap := by rw [hhp]; exact vx_Zq.moved hW0.alike (hN.kept hS.2.1)
  have h : ∀ w ∈ Bundle.ownAtoms own ic cls names, w.before args s' = true := vx_own hat' (vx_isRefq hU'.1) (vx_isRefq hN'.1) hU'.2.word hN'.2.word
  have hown' : s'.vm.findClass own = some m.cls := by rw [hvm]; exact hown
  have hins : (Cond.instantiable cls 6).before args s' = true := h _ (by simp [Bundle.ownAtoms])
  obtain ⟨vm₁, cX, kX, hfX, hkX, -, -, X₁, st1⟩ := Y.newCold hexec (own := own) (C := cls) (index := ik) (n := 6) hown' hk' hins hini'
    (g := F0 m pc ls rest) rfl (by rw [hb]; exact d0) (Nat.le_refl _) (Nat.le_refl _)
  generalize hT1 : (T.setVm vm₁).pushCell { cls := cX, slots := kX.instanceTypes.map defaultValue, vm := .none } = T1 at X₁ st1
  have hcat : (Value.ref T.heap.size).category = 1 := rfl
  have hcellA : T1.heap[T.heap.size]? = some (freshCell cX kX) := by rw [← hT1]; exact State.heap_pushCell_size _ _
  have d3' : decode c.code (pc + 3) = .ok (.dup, 1) := by rw [hb]; exact d3
  have d4' : decode c.code (pc + 4) = .ok (.ldc_w is, 3) := by rw [hb]; exact d4
  have hstr' : vk_R own is text sa s' := vk_R.warm hW0 hstr
  obtain ⟨U, hsteps, hrun, hend, hW, hsame, ce, hce, hO⟩ := X₁.ctorThrowS hexec htr (own := own) (cls := cls) (names := names) (ic := ic) hown' hcls hnames h (fun x hx => nomatch hx) hfX hkX hcellA (by rw [hhp, hT]; exact Nat.le_refl _) (msg := .ref sa) rfl
    (g := { method := m, pc := pc + 7, locals := ls, stack := .ref sa :: .ref T.heap.size :: .ref T.heap.size :: rest, locked := none }) rfl hsize rfl rfl (rest := rest) rfl
    (by rw [hb]; exact d7) (by rw [hb]; exact d10) hout hRframes (by simp only [List.map_cons, List.sum_cons, hcat]; omega) hlocks
  obtain ⟨f1, f2⟩ := vx_frame hsame
  rw [hhp] at f1 f2
  have hWs : s.WarmedH U.vm := State.WarmedH.trans hW0 hW
  have hcl : s.vm.findClass cls = some ce.cls := by
    have h9 := hO.cls
    rw [hvm] at h9
    exact h9
  have hall : s.sameButNew ({ U with vm := s.vm } : State) locs mc ms := by
    subst hA
    obtain ⟨e1, e2⟩ := hsame
    rw [State.setFrames_setFrames] at e1
    have h2 : (T.setVm s.vm).sameButNew ({ U with vm := s.vm } : State) [] (0 + 1) (0 + 6) := ⟨e1, e2⟩
    have h3 := X.same.trans h2
    rw [List.append_nil] at h3
    exact h3.mono hc hs
  refine ⟨U, ?_, .threw T.heap.size, hrun, hend, Or.inr ⟨T.heap.size, rfl, cls, ce, locs, hx U hWs.alike f1 (fun q hq => f2 q hq (fun z hz => nomatch hz)), hce, hO.vm, hcl, hWs, hall, hf⟩⟩
  refine st1 _ ?_
  show Steps p.tables e below (T1.setTop { method := m, pc := pc + 3, locals := ls, stack := .ref T.heap.size :: rest, locked := none }) _
  jvm_step X₁.here [X₁.here.top, hexec, d3', Value.category]
  exact X₁.ldcStringW hexec (own := own) (text := text) (index := is) (a := sa) hown' hstr'.1 hstr'.2
    (g := { method := m, pc := pc + 4, locals := ls, stack := .ref T.heap.size :: .ref T.heap.size :: rest, locked := none }) rfl d4' _ hsteps
end Ends
section Bodies
variable {l : Launch}
theorem vx_ofW {y : MethodName} {ws ws' : List Cond} {rm : Room} {Pc : Array Value → State → Prop} {Qc : Array Value → State → Outcome → State → Prop} {XC : String → State → State → Prop} {mc ms : Nat} {free : Addr → Prop} {cc : ByteArray} {maxL : Nat} {ret : Option FieldType}
    (hy : plainName y.cls = true) (hw : ws = Cond.code y cc maxL ret :: ws')
    (body : ∀ p e s m args below meth c s₁, BodyLoose p l y (headSpec ws rm) cc maxL ret e s m args below meth c s₁ → c.maxLocals = maxL → (∀ x ∈ c.exceptionTable.toList, False) → Pc args s →
      W p l e (headSpec ws rm).room s m args below meth c s.heap [] 0 0 (vx_MQ below Qc XC args s mc ms free) (entryFrame m args maxL)) : vx_Met l y ws rm Pc Qc XC mc ms free := by
  refine MetFree.of_bodyS (code := cc) (maxLocals := maxL) (ret := ret) hy ?_ ?_
  · intro args s m h hn
    obtain ⟨meth, c, h1, h2, h3, h4, h5, h6, -, -⟩ := Cond.code_spec hn (atoms_spec (ws := ws) h _ (by rw [hw]; exact List.mem_cons_self))
    exact ⟨meth, c, h1, h2, h3, h4, h5, h6⟩
  · intro p e s m args below meth c s₁ B hml hP _
    have hh0 : s₁.heap = s.heap := by rw [B.state]; rfl
    have ht : ∀ x ∈ c.exceptionTable.toList, False := by
      obtain ⟨meth9, c9, h1, h2, -, -, -, -, h7, -⟩ := Cond.code_spec B.named (atoms_spec (ws := ws) B.pre _ (by rw [hw]; exact List.mem_cons_self))
      cases Option.some.inj (h1.symm.trans B.method)
      cases Option.some.inj (h2.symm.trans (Stand.of_body B).code)
      intro x hx
      rw [Array.isEmpty_iff.mp h7] at hx
      cases hx
    obtain ⟨t, a1, o, b1, b2, b3⟩ := body p e s m args below meth c s₁ B hml ht hP s₁ hh0 (Stand.of_body B)
    exact ⟨t, o, a1, b1, b2, b3⟩
/-- the table of a body with handlers -/
theorem vx_table {p : Program} {x y : MethodName} {S : Spec} {cc bytes : ByteArray} {maxL maxL' : Nat} {ret ret' : Option FieldType} {e : Env} {s s₁ : State} {m : MethodId} {args : Array Value} {below : List Frame} {meth : Method} {c : Code} {hh : List (Nat × Nat × Nat × Nat)}
    (B : BodyLoose p l y S cc maxL ret e s m args below meth c s₁) (h : (Cond.codeWith y bytes maxL' ret' hh).before args s = true) : c.exceptionTable.toList = tableOf hh := by
  obtain ⟨m9, meth9, c9, hn9, h1, h2, -, -, h6, -⟩ := Cond.codeWith_spec h
  cases Option.some.inj (hn9.symm.trans B.named)
  cases Option.some.inj (h1.symm.trans B.method)
  cases Option.some.inj (h2.symm.trans (Stand.of_body B).code)
  rw [← h6, table_eq]
end Bodies
end VXA
/-! ===== END ===== -/
/-! ===== BEGIN a static call of a method with an exception table ===== -/
section VXS
variable {p : Program} {l : Launch} {e : Env} {R : Room} {s : State} {m : MethodId} {args : Array Value} {below : List Frame} {meth : Method} {c : Code} {T : State} {H : Heap} {locs : List Loc} {cells slots : Nat}
abbrev vx_CSW (R : Room) (s : State) (args : Array Value) (own : String) (index : Nat) (y : MethodName) (bytes : ByteArray) (maxL : Nat) (ret : Option FieldType) (hh : List (Nat × Nat × Nat × Nat)) (ws : List Cond) (rm : Room) (mc ms n : Nat) : Prop :=
  (rm.cells = mc ∧ rm.slots = ms ∧ rm.frames + 1 ≤ R.frames ∧ 8 + (maxL + 11) + rm.locals ≤ R.locals ∧ (∀ w ∈ ws, ∀ (a' : Array Value) (U : State), s.WarmedH U.vm → w.before a' U = true) ∧ Cond.codeWith y bytes maxL ret hh ∈ ws) ∧
  (Cond.codeWith y bytes maxL ret hh).before args s = true ∧ (Cond.initialized y.cls).before args s = true ∧ (y.cls ≠ "java/lang/invoke/MethodHandle" ∧ y.cls ≠ "java/lang/invoke/VarHandle") ∧
  (∀ sig, parseMethodDescriptor y.desc = some sig → n = sig.parameters.length) ∧ (Cond.methodLink own index y).before args s = true ∧ (Cond.static y).before args s = true
theorem vx_cwSW {own : String} {index maxL mc ms : Nat} {y : MethodName} {bytes : ByteArray} {ret : Option FieldType} {hh : List (Nat × Nat × Nat × Nat)} {Ts ws ws' : List Cond} {rm : Room} (n : Nat) (ht : ∀ w ∈ Ts, w.before args s = true) (hT : GoodIn Ts (va_wsS own index y ws)) (hw : ws = Cond.codeWith y bytes maxL ret hh :: ws') (hrc : rm.cells = mc) (hrs : rm.slots = ms)
    (hd : y.cls ≠ "java/lang/invoke/MethodHandle" ∧ y.cls ≠ "java/lang/invoke/VarHandle" ∧ (parseMethodDescriptor y.desc).map (fun d => d.parameters.length) = some n) (hR : rm.frames + 1 ≤ R.frames ∧ 8 + (maxL + 11) + rm.locals ≤ R.locals) :
    vx_CSW R s args own index y bytes maxL ret hh ws rm mc ms n := by
  have ok : ∀ w ∈ va_wsS own index y ws, w.before args s = true := fun w h => ht w (hT w h).1
  have hG : GoodIn Ts ws := fun w h => hT w (by unfold va_wsS; exact List.mem_append_right _ h)
  have hc : Cond.codeWith y bytes maxL ret hh ∈ ws := by rw [hw]; exact List.mem_cons_self
  refine ⟨⟨hrc, hrs, hR.1, hR.2, pay_in ht hG, hc⟩, ht _ (hG _ hc).1, ok _ (by simp [va_wsS]), ⟨hd.1, hd.2.1⟩, fun sig h => ?_, ok _ (by simp [va_wsS]), ok _ (by simp [va_wsS])⟩
  have h2 := hd.2.2
  rw [h] at h2
  exact (Option.some.inj h2).symm
theorem vx_callSW (X : Stand p l e R s m args below meth c T locs cells slots) (hexec : p.tables.exec = Jvm.exec) {own : String} {index : Nat} {y : MethodName} {bytes : ByteArray} {maxL : Nat} {ret : Option FieldType} {hh : List (Nat × Nat × Nat × Nat)}
    (hown : s.vm.findClass own = some m.cls) (hlink : (Cond.methodLink own index y).before args s = true) (hstat : (Cond.static y).before args s = true) (hinit : (Cond.initialized y.cls).before args s = true)
    (hcode : (Cond.codeWith y bytes maxL ret hh).before args s = true) (hy : y.cls ≠ "java/lang/invoke/MethodHandle" ∧ y.cls ≠ "java/lang/invoke/VarHandle")
    {W9 : Nat} {Pre : Pt → Array Value → Prop} {Post : Pt → Array Value → Option Value → Pt → Prop} (hK : Back l R p e below s args y 3 W9 Pre Post)
    {g : JFrame} (hg : g.method = m) (hsize : g.locals.size = c.maxLocals) {argsL rest : List Value} (hlen : ∀ sig, parseMethodDescriptor y.desc = some sig → argsL.length = sig.parameters.length)
    (hstack : g.stack = argsL.reverse ++ rest) (hW : 2 * g.monitorRoom + (rest.map fun v => v.category).sum ≤ W9) (hdg : decode c.code g.pc = .ok (.invokestatic index, 3))
    (hpre : ∀ vm₁, s.WarmedH vm₁ → Pre ⟨T.setVm vm₁, locs, cells, slots⟩ argsL.toArray) :
    ∃ (v : Option Value) (vm₁ : Vm) (B : Pt), s.WarmedH vm₁ ∧ Stand p l e R s m args below meth c B.U B.locs B.cells B.slots ∧ Post ⟨T.setVm vm₁, locs, cells, slots⟩ argsL.toArray v B ∧
      ∀ target, Steps p.tables e below (B.U.setTop { g with pc := g.pc + 3, stack := v.toList ++ rest }) target → Steps p.tables e below (T.setTop g) target := by
  obtain ⟨mk, methM, cM, hnamed, hmethM, -, -, -, -, -, -, hsigM⟩ := Cond.codeWith_spec hcode
  have hstatic : methM.isStatic = true := Cond.static_spec hnamed hmethM hstat
  obtain ⟨kP, hkP, -⟩ := className_of_methodNamed hnamed
  have hinitP : kP.init = .initialized := Cond.initialized_spec (findClass_of_methodNamed hnamed) hkP hinit
  obtain ⟨vm₁, X₁, hstep₁⟩ := X.invokestatic hexec hown hlink hnamed hmethM hstatic hkP hinitP hy (g := g) hg (argsL := argsL) (rest := rest) (hlen _ hsigM) hstack hdg
  obtain ⟨v, B, X', hpost, hsteps⟩ := hK m meth c ⟨T.setVm vm₁, locs, cells, slots⟩ { g with stack := rest } (.invokestatic index) mk argsL.toArray X₁ hg hsize hdg hW (X₁.named hnamed) (hpre vm₁ X₁.warmed)
  exact ⟨v, vm₁, B, X₁.warmed, X', hpost, fun target h => hstep₁ _ fun acts => by rw [doInvoke_state]; exact hsteps.trans h⟩
theorem vx_runSW {y : MethodName} {bytes cc : ByteArray} {maxL nL mc ms n index : Nat} {ret : Option FieldType} {hh : List (Nat × Nat × Nat × Nat)} {ws : List Cond} {rm : Room} {Pc : Array Value → State → Prop} {Qc : Array Value → State → Outcome → State → Prop} {free : Addr → Prop} {Ts : List Cond} {own : String} {As rest : List Value} {g : JFrame}
    (S : CallFix p m c cc nL s args Ts own) (hM : Met l y ws rm Pc Qc mc ms free) (cw : vx_CSW R s args own index y bytes maxL ret hh ws rm mc ms n) (hp : PreS s H Pc As)
    (hg : g.method = m) (hn : As.length = n) (hsize : g.locals.size = nL) (hstack : g.stack = As.reverse ++ rest) (hW : 2 * g.monitorRoom + (rest.map fun v => v.category).sum ≤ 8) (hdg : decode cc g.pc = .ok (.invokestatic index, 3)) (hf : cells + mc ≤ R.cells ∧ slots + ms ≤ R.slots) :
    va_Run p l e R s m args below meth c H locs cells slots mc ms g rest (Qc As.toArray) (free) := by
  obtain ⟨⟨hrc, hrs, hfr, hlo, hws, hcw⟩, hcode, hini, hy, hlen, hl, hstt⟩ := cw
  have hK : Back l R p e below s args y 3 8 (PreOf R mc ms Pc) (PostOf Qc mc ms free) := va_backW (hh := hh) (bytes := bytes) (maxL := maxL) (ret := ret) hM hp.1 hrc hrs hfr hlo hws hcw (fun a' U hW => word_at hW (Or.inl (by first | rfl | simp [Cond.onTables, Cond.keeps, Cond.steady])) hini)
  obtain ⟨hx, hb, hml, ho, -⟩ := S
  intro T hT X
  obtain ⟨v, vm₁, ⟨U', l2, c2, s2⟩, hW₁, X', ⟨g', mk, t, L, e1, e2, hq, h1, hL, h2, h3⟩, st⟩ := vx_callSW X hx (hh := hh) (bytes := bytes) (maxL := maxL) (ret := ret) ho hl hstt hini hcode hy hK hg (hsize.trans hml.symm) (argsL := As) (rest := rest) (fun sig h => hn.trans (hlen sig h)) hstack hW (by rw [hb]; exact hdg)
    (fun vm₁ hW₁ => ⟨hf.1, hf.2, hp.2 (T.setVm vm₁) hT hW₁⟩)
  dsimp only [Pt.U, Pt.locs, Pt.cells, Pt.slots] at X' e1 e2 h1 h2 h3 st
  subst h1; subst h2; subst h3
  exact ⟨v, (T.setVm vm₁).calling g' mk As.toArray, t, U', L, hT, X', hL, e1, e2, hq, st⟩
/-- not caught here, past rows that name other classes: it goes on to the caller -/
theorem vx_outP {p : Program} {l : Launch} {e : Env} {R : Room} {s : State} {m : MethodId} {args : Array Value} {below : List Frame} {meth : Method} {c : Code} {H : Heap} {locs : List Loc} {cells slots : Nat} {free : Addr → Prop} {ls : Array Slot} {rest : List Value} {Qc : Array Value → State → Outcome → State → Prop} {XC : String → State → State → Prop}
    {pc : Nat} {own E : String} {ce : Cell} {q : Addr} {mc ms : Nat} (hown : s.vm.findClass own = some m.cls) (hlocks : meth.locks = false)
    (hpass : ∀ z ∈ c.exceptionTable.toList, covers z pc = false ∨ (z.catchType ≠ 0 ∧ ∃ nm : String, (Cond.classLink own z.catchType nm).before args s = true ∧ va_Nc E nm s)) (hcell : H[q]? = some ce) (hv : ce.vm = .none) (hcl : s.vm.findClass E = some ce.cls)
    (hx : ∀ t : State, t.heap = H → s.vm.Alike t.vm → XC E s t) (hf : ∀ z ∈ locs, free z.base) (hc : cells ≤ mc) (hs : slots ≤ ms) :
    vx_W p l e R s m args below meth c H locs cells slots (vx_MQ below Qc XC args s mc ms free) (F0 m pc ls rest) q := by
  intro T hT X
  have hpl : e.platform.magicAccessors = ({} : Platform).magicAccessors := by rw [X.admits.platform]
  obtain ⟨vm', hW', X', st⟩ := X.outThrough hlocks q (g := F0 m pc ls rest) rfl rfl rfl (cell := ce) (by rw [hT]; exact hcell) (by rw [hv]; rfl)
    (by obtain ⟨k9, h9, -⟩ := Vm.findClass_spec hcl; exact ⟨k9, h9⟩) (fun z hz => by
      rcases hpass z hz with h | ⟨hz0, nm, hl1, hn1⟩
      · exact Or.inl h
      · obtain ⟨c6, hc6, hcl6⟩ := Cond.classLink_spec hown hl1 e.platform hpl
        obtain ⟨a8, b8, h1, h2, h3⟩ := hn1
        cases Option.some.inj (h1.symm.trans hcl)
        cases Option.some.inj (h2.symm.trans hc6)
        exact Or.inr ⟨hz0, _, hcl6, h3⟩)
  obtain ⟨g₀, hfr⟩ := X'.frames_eq
  have hcell9 : ((T.setVm vm').setFrames (.throwing q :: below)).heap[q]? = some ce := by
    show T.heap[q]? = some ce
    rw [hT]; exact hcell
  have hend : Ended ((T.setVm vm').setFrames (.throwing q :: below)) below (.threw q) := State.frames_setFrames _ (State.cur_lt_of_frames hfr)
  refine ⟨(T.setVm vm').setFrames (.throwing q :: below), ?_, .threw q, X'.here.running, hend, Or.inr ⟨q, rfl, E, ce, locs, hx _ hT (X'.ends _).1.alike, hcell9, hv, hcl, (X'.ends _).1, (X'.ends _).2.mono hc hs, hf⟩⟩
  rw [X.pushThrowing_eq]
  exact st
/-- a thing of a world lies in the heap -/
theorem vx_lt {D : va_G} {cl : List vw_C} {ws : va_W} {H1 : Heap} (h : va_P D cl ws H1) {k : Nat} {q : Nat × va_E} (hk : ws[k]? = some q) : q.1 < H1.size := (h k q hk).lt
end VXS
/-! ===== END ===== -/
/-! ===== BEGIN methods with a table of their own: called by a name, returning or throwing ===== -/
section VXH
/-! vx_backW, vx_callVX, vx_callSX, vx_callVW, vx_runVW, vx_runVX, vx_runSX, vx_ofWH follow the same proofs as their sisters above (Free/Laws.lean, Shelf42/LK1.lean); vx_outP calls Shelf42/NT130.lean (outThrough). -/
section
variable {l : Launch} {R : Room} {p : Program} {e : Env} {below : List Frame} {s : State} {sargs : Array Value} {y : MethodName} {len W9 : Nat}
theorem vx_backW {ws : List Cond} {rm : Room} {Pc : Array Value → State → Prop} {Qc : Array Value → State → Outcome → State → Prop} {XC : String → State → State → Prop} {mc ms : Nat} {free : Addr → Prop} {bytes : ByteArray} {maxL : Nat} {ret : Option FieldType} {hh : List (Nat × Nat × Nat × Nat)}
    (hM : vx_Met l y ws rm Pc Qc XC mc ms free) (hblind : FrameBlind Pc) (hrc : rm.cells = mc) (hrs : rm.slots = ms)
    (hframes : rm.frames + 1 ≤ R.frames) (hlocals : W9 + (maxL + 11) + rm.locals ≤ R.locals)
    (hws : ∀ w ∈ ws, ∀ a' U, s.WarmedH U.vm → w.before a' U = true) (hcode : Cond.codeWith y bytes maxL ret hh ∈ ws) (hinit : ∀ a' U, s.WarmedH U.vm → (Cond.initialized y.cls).before a' U = true) :
    vx_Back l R p e below s sargs y len W9 (PreOf R mc ms Pc) (PostOf Qc mc ms free) (vx_Post XC mc ms free) := by
  intro m meth c A g ig mk a X hg hsize hdg hW hn hp
  have h1 : (headSpec ws rm).pre.before a A.U = true := atoms_intro fun w hw => hws w hw _ _ X.warmed
  have h2 : (Cond.codeWith y bytes maxL ret hh).before a A.U = true := hws _ hcode _ _ X.warmed
  have h3 : (Cond.initialized y.cls).before a A.U = true := hinit _ _ X.warmed
  have h4 : A.cells + (headSpec ws rm).room.cells ≤ R.cells := by rw [show (headSpec ws rm).room.cells = mc from hrc]; exact hp.1
  have h5 : A.slots + (headSpec ws rm).room.slots ≤ R.slots := by rw [show (headSpec ws rm).room.slots = ms from hrs]; exact hp.2.1
  have hPc : Pc a (A.U.calling g mk a) := hblind _ _ _ _ hp.2.2
  obtain ⟨U, Ls, c0, s0⟩ := A
  dsimp only [Pt.U, Pt.locs, Pt.cells, Pt.slots] at h1 h2 h3 h4 h5 X hn hPc ⊢
  obtain ⟨m9, methY, cY, hn9, hmY, hcY, -, hlY, -⟩ := Cond.codeWith_spec h2
  cases Option.some.inj (hn9.symm.trans hn)
  obtain ⟨kY, hkY, -⟩ := className_of_methodNamed hn
  have hinitY : kY.init = .initialized := Cond.initialized_spec (findClass_of_methodNamed hn) hkY h3
  have h : At U g.method c below := by rw [hg]; exact X.here
  have hlocals9 : W9 + (maxL + 11) + (headSpec ws rm).room.locals ≤ R.locals := hlocals
  have happ : (headSpec ws rm).appliesLoose y e.platform (U.calling g mk a) = true :=
    Spec.appliesLoose_calling (g := g) h hdg hn hkY hinitY
      (X.room_calling (g := g) (R' := (headSpec ws rm).room) hsize hmY hcY hframes (by rw [hlY]; omega) h4 h5) h1
  obtain ⟨mid, hmid⟩ := h.above
  have hfr : (U.setTop g).frames = (.java g :: mid) ++ below := by rw [State.frames_setTop' g h.top, hmid]; rfl
  obtain ⟨o, s₂, hsteps, -, hend, hq⟩ := Steps.callFree hM p X.admits X.cas X.clock (acts := []) hfr happ hPc trivial
  have hq' : vx_Q Qc XC mc ms free a (U.calling g mk a) o s₂ := hq
  rw [State.frames_setTop' g h.top] at hend
  obtain ⟨g₀, hg0⟩ := Option.isSome_iff_exists.mp h.top
  obtain ⟨r, hr⟩ := State.topJava?_eq_some.mp hg0
  have hr' : (({ U with heap := s₂.heap, slotsUsed := s₂.slotsUsed } : State).setVm s₂.vm).frames = .java g₀ :: r := hr
  rcases hq' with ⟨hqc, L, hfe, hL⟩ | ⟨q, rfl, E, ce, L, hx, hce, hcv, hcl, hW₂, hsm, hL⟩
  · obtain ⟨⟨v, rfl⟩, hW₂, e2, q2, q3, q4, q5, q6⟩ := id hfe
    have e3 : s₂ = ({ (U.calling g mk a).setFrames s₂.frames with heap := s₂.heap, slotsUsed := s₂.slotsUsed } : State).setVm s₂.vm := by
      have : s₂ = ({ s₂ with vm := (U.calling g mk a).vm } : State).setVm s₂.vm := rfl
      rw [e2] at this
      exact this
    obtain ⟨c₂, i₂, len₂, hc₂, hd₂, hf₂⟩ := hend
    have hW' : U.WarmedH s₂.vm := hW₂
    have hcc : c₂ = c := by
      have h1 : s₂.code? g.method = U.code? g.method := by
        rw [State.code?_eq, State.code?_eq, hW'.alike.method?]
      exact Option.some.inj (hc₂.symm.trans (h1.trans h.code))
    subst hcc
    have hlen : len₂ = len := by rw [hdg] at hd₂; cases hd₂; rfl
    subst hlen
    have hs₂ : s₂ = (({ U with heap := s₂.heap, slotsUsed := s₂.slotsUsed } : State).setVm s₂.vm).setTop { g with pc := g.pc + len₂, stack := v.toList ++ g.stack } := by
      refine e3.trans ?_
      rw [hf₂, State.calling_eq h.top, State.setFrames_setFrames, State.setTop_of_frames _ hr', hr]
      rfl
    have hsame : U.sameButNew ({ U with heap := s₂.heap, slotsUsed := s₂.slotsUsed } : State) L mc ms := by
      refine ⟨?_, q2, q3, q4, q5, q6⟩
      obtain ⟨t, ht, -⟩ := State.frames_cons hr
      show ({ U with heap := s₂.heap, slotsUsed := s₂.slotsUsed } : State) = { U.setFrames U.frames with heap := s₂.heap, slotsUsed := s₂.slotsUsed }
      rw [State.setFrames_self ht]
    subst hg
    refine Or.inl ⟨v, ⟨(({ U with heap := s₂.heap, slotsUsed := s₂.slotsUsed } : State).setVm s₂.vm), Ls ++ L, c0 + mc, s0 + ms⟩,
      ⟨X.admits, X.cas, X.clock, X.frames, X.room, X.hears, X.method, X.code, (X.here.setHeapUsed s₂.heap s₂.slotsUsed).setVm hW'.alike, X.tail, State.WarmedH.trans X.warmed hW', X.limits, X.bytes, X.same.trans (hsame.setVm s.vm)⟩,
      ⟨g, mk, s₂, L, rfl, rfl, hqc, rfl, hL, rfl, rfl⟩, ?_⟩
    show Steps p.tables e below _ ((({ U with heap := s₂.heap, slotsUsed := s₂.slotsUsed } : State).setVm s₂.vm).setTop { g with pc := g.pc + len₂, stack := v.toList ++ g.stack })
    rw [← hs₂]
    exact hsteps
  · obtain ⟨e2, q2, q3, q4, q5, q6⟩ := id hsm
    have e3 : s₂ = ({ (U.calling g mk a).setFrames s₂.frames with heap := s₂.heap, slotsUsed := s₂.slotsUsed } : State).setVm s₂.vm := by
      have : s₂ = ({ s₂ with vm := (U.calling g mk a).vm } : State).setVm s₂.vm := rfl
      rw [e2] at this
      exact this
    have hf₂ : s₂.frames = .throwing q :: .java g :: U.frames.tail := hend
    have hW' : U.WarmedH s₂.vm := hW₂
    have hs₂ : s₂ = ((({ U with heap := s₂.heap, slotsUsed := s₂.slotsUsed } : State).setVm s₂.vm).setTop g).pushFrame (.throwing q) := by
      refine e3.trans ?_
      rw [hf₂, State.calling_eq h.top, State.setFrames_setFrames, State.pushFrame, State.frames_setTop _ hr', State.setTop_of_frames _ hr', State.setFrames_setFrames, hr]
      rfl
    have hsame : U.sameButNew ({ U with heap := s₂.heap, slotsUsed := s₂.slotsUsed } : State) L mc ms := by
      refine ⟨?_, q2, q3, q4, q5, q6⟩
      obtain ⟨t, ht, -⟩ := State.frames_cons hr
      show ({ U with heap := s₂.heap, slotsUsed := s₂.slotsUsed } : State) = { U.setFrames U.frames with heap := s₂.heap, slotsUsed := s₂.slotsUsed }
      rw [State.setFrames_self ht]
    subst hg
    refine Or.inr ⟨q, ⟨(({ U with heap := s₂.heap, slotsUsed := s₂.slotsUsed } : State).setVm s₂.vm), Ls ++ L, c0 + mc, s0 + ms⟩,
      ⟨X.admits, X.cas, X.clock, X.frames, X.room, X.hears, X.method, X.code, (X.here.setHeapUsed s₂.heap s₂.slotsUsed).setVm hW'.alike, X.tail, State.WarmedH.trans X.warmed hW', X.limits, X.bytes, X.same.trans (hsame.setVm s.vm)⟩,
      ⟨g, mk, s₂, L, E, ce, rfl, rfl, hx, hce, hcv, hcl, rfl, hL, rfl, rfl⟩, ?_⟩
    show Steps p.tables e below _ (((({ U with heap := s₂.heap, slotsUsed := s₂.slotsUsed } : State).setVm s₂.vm).setTop g).pushFrame (.throwing q))
    rw [← hs₂]
    exact hsteps
end
variable {p : Program} {l : Launch} {e : Env} {R : Room} {s : State} {m : MethodId} {args : Array Value} {below : List Frame} {meth : Method} {c : Code} {T : State} {H : Heap} {locs : List Loc} {cells slots : Nat}
theorem vx_callVX (X : Stand p l e R s m args below meth c T locs cells slots) (hexec : p.tables.exec = Jvm.exec) {own C : String} {index : Nat} {y : MethodName} {bytes : ByteArray} {maxL : Nat} {ret : Option FieldType} {hh : List (Nat × Nat × Nat × Nat)}
    (hown : s.vm.findClass own = some m.cls) (hlink : (Cond.methodLink own index y).before args s = true) (hinst : (Cond.instanceMethod y).before args s = true) (hsel : (Cond.selects C y y).before args s = true)
    (hcode : (Cond.codeWith y bytes maxL ret hh).before args s = true) (hy : y.cls ≠ "java/lang/invoke/MethodHandle" ∧ y.cls ≠ "java/lang/invoke/VarHandle")
    {W9 : Nat} {Pre : Pt → Array Value → Prop} {Post : Pt → Array Value → Option Value → Pt → Prop} {PostX : Pt → Array Value → Addr → Pt → Prop} (hK : vx_Back l R p e below s args y 3 W9 Pre Post PostX)
    {b : Addr} {cellB : Cell} (hcell : T.heap[b]? = some cellB) (hobj : cellB.vm.isStatics = false) (hcls : s.vm.findClass C = some cellB.cls)
    {g : JFrame} (hg : g.method = m) (hsize : g.locals.size = c.maxLocals) {argsL rest : List Value} (hlen : ∀ sig, parseMethodDescriptor y.desc = some sig → argsL.length = sig.parameters.length)
    (hstack : g.stack = argsL.reverse ++ .ref b :: rest) (hW : 2 * g.monitorRoom + (rest.map fun v => v.category).sum ≤ W9) (hdg : decode c.code g.pc = .ok (.invokevirtual index, 3))
    (hpre : ∀ vm₁, s.WarmedH vm₁ → Pre ⟨T.setVm vm₁, locs, cells, slots⟩ (Value.ref b :: argsL).toArray) :
    (∃ (v : Option Value) (vm₁ : Vm) (B : Pt), s.WarmedH vm₁ ∧ Stand p l e R s m args below meth c B.U B.locs B.cells B.slots ∧ Post ⟨T.setVm vm₁, locs, cells, slots⟩ (Value.ref b :: argsL).toArray v B ∧
      ∀ target, Steps p.tables e below (B.U.setTop { g with pc := g.pc + 3, stack := v.toList ++ rest }) target → Steps p.tables e below (T.setTop g) target) ∨
    (∃ (q : Addr) (vm₁ : Vm) (B : Pt), s.WarmedH vm₁ ∧ Stand p l e R s m args below meth c B.U B.locs B.cells B.slots ∧ PostX ⟨T.setVm vm₁, locs, cells, slots⟩ (Value.ref b :: argsL).toArray q B ∧
      Steps p.tables e below (T.setTop g) ((B.U.setTop { g with stack := rest }).pushFrame (.throwing q))) := by
  obtain ⟨mk, methM, hnamed, hmethM, hstM, habM⟩ := Cond.instanceMethod_spec hinst
  obtain ⟨m8, methM', cM, hn8, hmethM', -, -, -, -, -, -, hsigM⟩ := Cond.codeWith_spec hcode
  cases Option.some.inj (hn8.symm.trans hnamed)
  cases hmethM.symm.trans hmethM'
  obtain ⟨c2, r2, m2, q1, q2, q3, q4, kP, hkP, hkPi⟩ := Cond.selects_spec hsel
  cases hcls.symm.trans q1
  cases (State.methodFound?_of_named hnamed hy).symm.trans q2
  cases hnamed.symm.trans q3
  have hselP : selectMethod e.platform s.vm cellB.cls mk = .method mk := by rw [Launch.admits_selectMethod X.admits]; exact q4
  obtain ⟨vm₁, X₁, hstep₁⟩ := X.invokevirtual hexec hown hlink hnamed hmethM hstM hkP hkPi hy (a := b) (cell := cellB) hcell
    (fun z h => by rw [h] at hobj; cases hobj) hselP hmethM habM hkP hkPi (g := g) hg (argsL := argsL) (rest := rest) (hlen _ hsigM) hstack hdg
  rcases hK m meth c ⟨T.setVm vm₁, locs, cells, slots⟩ { g with stack := rest } (.invokevirtual index) mk (Value.ref b :: argsL).toArray X₁ hg hsize hdg hW (X₁.named hnamed) (hpre vm₁ X₁.warmed) with ⟨v, B, X', hpost, hsteps⟩ | ⟨q, B, X', hpost, hsteps⟩
  · exact Or.inl ⟨v, vm₁, B, X₁.warmed, X', hpost, fun target h => hstep₁ _ fun acts => by rw [doInvoke_state]; exact hsteps.trans h⟩
  · exact Or.inr ⟨q, vm₁, B, X₁.warmed, X', hpost, hstep₁ _ fun acts => by rw [doInvoke_state]; exact hsteps⟩
theorem vx_callSX (X : Stand p l e R s m args below meth c T locs cells slots) (hexec : p.tables.exec = Jvm.exec) {own : String} {index : Nat} {y : MethodName} {bytes : ByteArray} {maxL : Nat} {ret : Option FieldType} {hh : List (Nat × Nat × Nat × Nat)}
    (hown : s.vm.findClass own = some m.cls) (hlink : (Cond.methodLink own index y).before args s = true) (hstat : (Cond.static y).before args s = true) (hinit : (Cond.initialized y.cls).before args s = true)
    (hcode : (Cond.codeWith y bytes maxL ret hh).before args s = true) (hy : y.cls ≠ "java/lang/invoke/MethodHandle" ∧ y.cls ≠ "java/lang/invoke/VarHandle")
    {W9 : Nat} {Pre : Pt → Array Value → Prop} {Post : Pt → Array Value → Option Value → Pt → Prop} {PostX : Pt → Array Value → Addr → Pt → Prop} (hK : vx_Back l R p e below s args y 3 W9 Pre Post PostX)
    {g : JFrame} (hg : g.method = m) (hsize : g.locals.size = c.maxLocals) {argsL rest : List Value} (hlen : ∀ sig, parseMethodDescriptor y.desc = some sig → argsL.length = sig.parameters.length)
    (hstack : g.stack = argsL.reverse ++ rest) (hW : 2 * g.monitorRoom + (rest.map fun v => v.category).sum ≤ W9) (hdg : decode c.code g.pc = .ok (.invokestatic index, 3))
    (hpre : ∀ vm₁, s.WarmedH vm₁ → Pre ⟨T.setVm vm₁, locs, cells, slots⟩ argsL.toArray) :
    (∃ (v : Option Value) (vm₁ : Vm) (B : Pt), s.WarmedH vm₁ ∧ Stand p l e R s m args below meth c B.U B.locs B.cells B.slots ∧ Post ⟨T.setVm vm₁, locs, cells, slots⟩ argsL.toArray v B ∧
      ∀ target, Steps p.tables e below (B.U.setTop { g with pc := g.pc + 3, stack := v.toList ++ rest }) target → Steps p.tables e below (T.setTop g) target) ∨
    (∃ (q : Addr) (vm₁ : Vm) (B : Pt), s.WarmedH vm₁ ∧ Stand p l e R s m args below meth c B.U B.locs B.cells B.slots ∧ PostX ⟨T.setVm vm₁, locs, cells, slots⟩ argsL.toArray q B ∧
      Steps p.tables e below (T.setTop g) ((B.U.setTop { g with stack := rest }).pushFrame (.throwing q))) := by
  obtain ⟨mk, methM, cM, hnamed, hmethM, -, -, -, -, -, -, hsigM⟩ := Cond.codeWith_spec hcode
  have hstatic : methM.isStatic = true := Cond.static_spec hnamed hmethM hstat
  obtain ⟨kP, hkP, -⟩ := className_of_methodNamed hnamed
  have hinitP : kP.init = .initialized := Cond.initialized_spec (findClass_of_methodNamed hnamed) hkP hinit
  obtain ⟨vm₁, X₁, hstep₁⟩ := X.invokestatic hexec hown hlink hnamed hmethM hstatic hkP hinitP hy (g := g) hg (argsL := argsL) (rest := rest) (hlen _ hsigM) hstack hdg
  rcases hK m meth c ⟨T.setVm vm₁, locs, cells, slots⟩ { g with stack := rest } (.invokestatic index) mk argsL.toArray X₁ hg hsize hdg hW (X₁.named hnamed) (hpre vm₁ X₁.warmed) with ⟨v, B, X', hpost, hsteps⟩ | ⟨q, B, X', hpost, hsteps⟩
  · exact Or.inl ⟨v, vm₁, B, X₁.warmed, X', hpost, fun target h => hstep₁ _ fun acts => by rw [doInvoke_state]; exact hsteps.trans h⟩
  · exact Or.inr ⟨q, vm₁, B, X₁.warmed, X', hpost, hstep₁ _ fun acts => by rw [doInvoke_state]; exact hsteps⟩
theorem vx_callVW (X : Stand p l e R s m args below meth c T locs cells slots) (hexec : p.tables.exec = Jvm.exec) {own C : String} {index : Nat} {y : MethodName} {bytes : ByteArray} {maxL : Nat} {ret : Option FieldType} {hh : List (Nat × Nat × Nat × Nat)}
    (hown : s.vm.findClass own = some m.cls) (hlink : (Cond.methodLink own index y).before args s = true) (hinst : (Cond.instanceMethod y).before args s = true) (hsel : (Cond.selects C y y).before args s = true)
    (hcode : (Cond.codeWith y bytes maxL ret hh).before args s = true) (hy : y.cls ≠ "java/lang/invoke/MethodHandle" ∧ y.cls ≠ "java/lang/invoke/VarHandle")
    {W9 : Nat} {Pre : Pt → Array Value → Prop} {Post : Pt → Array Value → Option Value → Pt → Prop} (hK : Back l R p e below s args y 3 W9 Pre Post)
    {b : Addr} {cellB : Cell} (hcell : T.heap[b]? = some cellB) (hobj : cellB.vm.isStatics = false) (hcls : s.vm.findClass C = some cellB.cls)
    {g : JFrame} (hg : g.method = m) (hsize : g.locals.size = c.maxLocals) {argsL rest : List Value} (hlen : ∀ sig, parseMethodDescriptor y.desc = some sig → argsL.length = sig.parameters.length)
    (hstack : g.stack = argsL.reverse ++ .ref b :: rest) (hW : 2 * g.monitorRoom + (rest.map fun v => v.category).sum ≤ W9) (hdg : decode c.code g.pc = .ok (.invokevirtual index, 3))
    (hpre : ∀ vm₁, s.WarmedH vm₁ → Pre ⟨T.setVm vm₁, locs, cells, slots⟩ (Value.ref b :: argsL).toArray) :
    ∃ (v : Option Value) (vm₁ : Vm) (B : Pt), s.WarmedH vm₁ ∧ Stand p l e R s m args below meth c B.U B.locs B.cells B.slots ∧ Post ⟨T.setVm vm₁, locs, cells, slots⟩ (Value.ref b :: argsL).toArray v B ∧
      ∀ target, Steps p.tables e below (B.U.setTop { g with pc := g.pc + 3, stack := v.toList ++ rest }) target → Steps p.tables e below (T.setTop g) target := by
  obtain ⟨mk, methM, hnamed, hmethM, hstM, habM⟩ := Cond.instanceMethod_spec hinst
  obtain ⟨m8, methM', cM, hn8, hmethM', -, -, -, -, -, -, hsigM⟩ := Cond.codeWith_spec hcode
  cases Option.some.inj (hn8.symm.trans hnamed)
  cases hmethM.symm.trans hmethM'
  obtain ⟨c2, r2, m2, q1, q2, q3, q4, kP, hkP, hkPi⟩ := Cond.selects_spec hsel
  cases hcls.symm.trans q1
  cases (State.methodFound?_of_named hnamed hy).symm.trans q2
  cases hnamed.symm.trans q3
  have hselP : selectMethod e.platform s.vm cellB.cls mk = .method mk := by rw [Launch.admits_selectMethod X.admits]; exact q4
  obtain ⟨vm₁, X₁, hstep₁⟩ := X.invokevirtual hexec hown hlink hnamed hmethM hstM hkP hkPi hy (a := b) (cell := cellB) hcell
    (fun z h => by rw [h] at hobj; cases hobj) hselP hmethM habM hkP hkPi (g := g) hg (argsL := argsL) (rest := rest) (hlen _ hsigM) hstack hdg
  obtain ⟨v, B, X', hpost, hsteps⟩ := hK m meth c ⟨T.setVm vm₁, locs, cells, slots⟩ { g with stack := rest } (.invokevirtual index) mk (Value.ref b :: argsL).toArray X₁ hg hsize hdg hW (X₁.named hnamed) (hpre vm₁ X₁.warmed)
  exact ⟨v, vm₁, B, X₁.warmed, X', hpost, fun target h => hstep₁ _ fun acts => by rw [doInvoke_state]; exact hsteps.trans h⟩
abbrev vx_CVW (R : Room) (s : State) (args : Array Value) (own C : String) (index : Nat) (y : MethodName) (bytes : ByteArray) (maxL : Nat) (ret : Option FieldType) (hh : List (Nat × Nat × Nat × Nat)) (ws : List Cond) (rm : Room) (mc ms n : Nat) : Prop :=
  (rm.cells = mc ∧ rm.slots = ms ∧ rm.frames + 1 ≤ R.frames ∧ 8 + (maxL + 11) + rm.locals ≤ R.locals ∧ (∀ w ∈ ws, ∀ (a' : Array Value) (U : State), s.WarmedH U.vm → w.before a' U = true) ∧ Cond.codeWith y bytes maxL ret hh ∈ ws) ∧
  (Cond.codeWith y bytes maxL ret hh).before args s = true ∧ (Cond.initialized y.cls).before args s = true ∧ (y.cls ≠ "java/lang/invoke/MethodHandle" ∧ y.cls ≠ "java/lang/invoke/VarHandle") ∧
  (∀ sig, parseMethodDescriptor y.desc = some sig → n = sig.parameters.length) ∧ (Cond.methodLink own index y).before args s = true ∧ (Cond.instanceMethod y).before args s = true ∧ (Cond.selects C y y).before args s = true
theorem vx_cwVW {own C : String} {index maxL mc ms : Nat} {y : MethodName} {bytes : ByteArray} {ret : Option FieldType} {hh : List (Nat × Nat × Nat × Nat)} {Ts ws ws' : List Cond} {rm : Room} (n : Nat) (ht : ∀ w ∈ Ts, w.before args s = true) (hT : GoodIn Ts (wsV own index C y ws)) (hw : ws = Cond.codeWith y bytes maxL ret hh :: ws') (hrc : rm.cells = mc) (hrs : rm.slots = ms)
    (hd : y.cls = C ∧ y.cls ≠ "java/lang/invoke/MethodHandle" ∧ y.cls ≠ "java/lang/invoke/VarHandle" ∧ (parseMethodDescriptor y.desc).map (fun d => d.parameters.length) = some n) (hR : rm.frames + 1 ≤ R.frames ∧ 8 + (maxL + 11) + rm.locals ≤ R.locals) :
    vx_CVW R s args own C index y bytes maxL ret hh ws rm mc ms n := by
  obtain ⟨hC, hd⟩ := hd
  subst hC
  have ok : ∀ w ∈ wsV own index y.cls y ws, w.before args s = true := fun w h => ht w (hT w h).1
  have hG : GoodIn Ts ws := fun w h => hT w (by unfold wsV; exact List.mem_append_right _ h)
  have hc : Cond.codeWith y bytes maxL ret hh ∈ ws := by rw [hw]; exact List.mem_cons_self
  refine ⟨⟨hrc, hrs, hR.1, hR.2, pay_in ht hG, hc⟩, ht _ (hG _ hc).1, ok _ (by simp [wsV]), ⟨hd.1, hd.2.1⟩, fun sig h => ?_, ok _ (by simp [wsV]), ok _ (by simp [wsV]), ok _ (by simp [wsV])⟩
  have h2 := hd.2.2
  rw [h] at h2
  exact (Option.some.inj h2).symm
theorem vx_runVW {y : MethodName} {bytes cc : ByteArray} {maxL nL mc ms n index : Nat} {ret : Option FieldType} {hh : List (Nat × Nat × Nat × Nat)} {ws : List Cond} {rm : Room} {Pc : Array Value → State → Prop} {Qc : Array Value → State → Outcome → State → Prop} {free : Addr → Prop} {Ts : List Cond} {own C : String} {b : Addr} {As rest : List Value} {g : JFrame}
    (S : CallFix p m c cc nL s args Ts own) (hM : Met l y ws rm Pc Qc mc ms free) (cw : vx_CVW R s args own C index y bytes maxL ret hh ws rm mc ms n) (hp : PreV s H C b Pc As)
    (hg : g.method = m) (hn : As.length = n) (hsize : g.locals.size = nL) (hstack : g.stack = As.reverse ++ .ref b :: rest) (hW : 2 * g.monitorRoom + (rest.map fun v => v.category).sum ≤ 8) (hdg : decode cc g.pc = .ok (.invokevirtual index, 3)) (hf : cells + mc ≤ R.cells ∧ slots + ms ≤ R.slots) :
    va_Run p l e R s m args below meth c H locs cells slots mc ms g rest (Qc (Value.ref b :: As).toArray) free := by
  obtain ⟨⟨hrc, hrs, hfr, hlo, hws, hcw⟩, hcode, hini, hy, hlen, hl, hin, hse⟩ := cw
  have hK : Back l R p e below s args y 3 8 (PreOf R mc ms Pc) (PostOf Qc mc ms free) := va_backW (hh := hh) (bytes := bytes) (maxL := maxL) (ret := ret) hM hp.1 hrc hrs hfr hlo hws hcw (fun a' U hW => word_at hW (Or.inl (by first | rfl | simp [Cond.onTables, Cond.keeps, Cond.steady])) hini)
  obtain ⟨hx, hb, hml, ho, -⟩ := S
  obtain ⟨-, ⟨cellB, hcB, hoB, hclB⟩, hPc⟩ := hp
  intro T hT X
  obtain ⟨v, vm₁, ⟨U', l2, c2, s2⟩, hW₁, X', ⟨g', mk, t, L, e1, e2, hq, h1, hL, h2, h3⟩, st⟩ := vx_callVW X hx (C := C) (hh := hh) (bytes := bytes) (maxL := maxL) (ret := ret) ho hl hin hse hcode hy hK (by rw [hT]; exact hcB) hoB hclB hg (hsize.trans hml.symm) (argsL := As) (rest := rest) (fun sig h => hn.trans (hlen sig h)) hstack hW (by rw [hb]; exact hdg)
    (fun vm₁ hW₁ => ⟨hf.1, hf.2, hPc (T.setVm vm₁) hT hW₁⟩)
  dsimp only [Pt.U, Pt.locs, Pt.cells, Pt.slots] at X' e1 e2 h1 h2 h3 st
  subst h1; subst h2; subst h3
  exact ⟨v, (T.setVm vm₁).calling g' mk (Value.ref b :: As).toArray, t, U', L, hT, X', hL, e1, e2, hq, st⟩
section
variable {y : MethodName} {bytes cc : ByteArray} {maxL nL mc ms n index : Nat} {ret : Option FieldType} {ws : List Cond} {rm : Room} {Pc : Array Value → State → Prop} {Qc : Array Value → State → Outcome → State → Prop} {XC : String → State → State → Prop} {free : Addr → Prop} {Ts : List Cond} {own C : String} {b : Addr} {As rest : List Value} {g : JFrame}
theorem vx_runVX {hh : List (Nat × Nat × Nat × Nat)} (S : CallFix p m c cc nL s args Ts own) (hM : vx_Met l y ws rm Pc Qc XC mc ms free) (cw : vx_CVW R s args own C index y bytes maxL ret hh ws rm mc ms n) (hp : PreV s H C b Pc As)
    (hg : g.method = m) (hn : As.length = n) (hsize : g.locals.size = nL) (hstack : g.stack = As.reverse ++ .ref b :: rest) (hW : 2 * g.monitorRoom + (rest.map fun v => v.category).sum ≤ 8) (hdg : decode cc g.pc = .ok (.invokevirtual index, 3)) (hf : cells + mc ≤ R.cells ∧ slots + ms ≤ R.slots) :
    vx_Run p l e R s m args below meth c H locs cells slots mc ms g rest (Qc (Value.ref b :: As).toArray) XC free := by
  obtain ⟨⟨hrc, hrs, hfr, hlo, hws, hcw⟩, hcode, hini, hy, hlen, hl, hin, hse⟩ := cw
  have hK : vx_Back l R p e below s args y 3 8 (PreOf R mc ms Pc) (PostOf Qc mc ms free) (vx_Post XC mc ms free) := vx_backW (hh := hh) (bytes := bytes) (maxL := maxL) (ret := ret) hM hp.1 hrc hrs hfr hlo hws hcw (fun a' U hW => word_at hW (Or.inl (by first | rfl | simp [Cond.onTables, Cond.keeps, Cond.steady])) hini)
  obtain ⟨hx, hb, hml, ho, -⟩ := S
  obtain ⟨-, ⟨cellB, hcB, hoB, hclB⟩, hPc⟩ := hp
  intro T hT X
  rcases vx_callVX X hx (C := C) (hh := hh) (bytes := bytes) (maxL := maxL) (ret := ret) ho hl hin hse hcode hy hK (by rw [hT]; exact hcB) hoB hclB hg (hsize.trans hml.symm) (argsL := As) (rest := rest) (fun sig h => hn.trans (hlen sig h)) hstack hW (by rw [hb]; exact hdg)
    (fun vm₁ hW₁ => ⟨hf.1, hf.2, hPc (T.setVm vm₁) hT hW₁⟩) with ⟨v, vm₁, ⟨U', l2, c2, s2⟩, hW₁, X', ⟨g', mk, t, L, e1, e2, hq, h1, hL, h2, h3⟩, st⟩ | ⟨q, vm₁, ⟨U', l2, c2, s2⟩, hW₁, X', ⟨g', mk, t, L, E, ce, e1, e2, hq, hce, hcv, hcl, h1, hL, h2, h3⟩, st⟩
  · dsimp only [Pt.U, Pt.locs, Pt.cells, Pt.slots] at X' e1 e2 h1 h2 h3 st
    subst h1; subst h2; subst h3
    exact Or.inl ⟨v, (T.setVm vm₁).calling g' mk (Value.ref b :: As).toArray, t, U', L, hT, X', hL, e1, e2, hq, st⟩
  · dsimp only [Pt.U, Pt.locs, Pt.cells, Pt.slots] at X' e1 e2 h1 h2 h3 st hcl
    subst h1; subst h2; subst h3
    exact Or.inr ⟨q, (T.setVm vm₁).calling g' mk (Value.ref b :: As).toArray, t, U', L, E, ce, hT, X', hL, e1, e2, hq, hce, hcv, vx_cls hW₁ hcl, st⟩
theorem vx_runSX {hh : List (Nat × Nat × Nat × Nat)} (S : CallFix p m c cc nL s args Ts own) (hM : vx_Met l y ws rm Pc Qc XC mc ms free) (cw : vx_CSW R s args own index y bytes maxL ret hh ws rm mc ms n) (hp : PreS s H Pc As)
    (hg : g.method = m) (hn : As.length = n) (hsize : g.locals.size = nL) (hstack : g.stack = As.reverse ++ rest) (hW : 2 * g.monitorRoom + (rest.map fun v => v.category).sum ≤ 8) (hdg : decode cc g.pc = .ok (.invokestatic index, 3)) (hf : cells + mc ≤ R.cells ∧ slots + ms ≤ R.slots) :
    vx_Run p l e R s m args below meth c H locs cells slots mc ms g rest (Qc As.toArray) XC free := by
  obtain ⟨⟨hrc, hrs, hfr, hlo, hws, hcw⟩, hcode, hini, hy, hlen, hl, hstt⟩ := cw
  have hK : vx_Back l R p e below s args y 3 8 (PreOf R mc ms Pc) (PostOf Qc mc ms free) (vx_Post XC mc ms free) := vx_backW (hh := hh) (bytes := bytes) (maxL := maxL) (ret := ret) hM hp.1 hrc hrs hfr hlo hws hcw (fun a' U hW => word_at hW (Or.inl (by first | rfl | simp [Cond.onTables, Cond.keeps, Cond.steady])) hini)
  obtain ⟨hx, hb, hml, ho, -⟩ := S
  intro T hT X
  rcases vx_callSX X hx (hh := hh) (bytes := bytes) (maxL := maxL) (ret := ret) ho hl hstt hini hcode hy hK hg (hsize.trans hml.symm) (argsL := As) (rest := rest) (fun sig h => hn.trans (hlen sig h)) hstack hW (by rw [hb]; exact hdg)
    (fun vm₁ hW₁ => ⟨hf.1, hf.2, hp.2 (T.setVm vm₁) hT hW₁⟩) with ⟨v, vm₁, ⟨U', l2, c2, s2⟩, hW₁, X', ⟨g', mk, t, L, e1, e2, hq, h1, hL, h2, h3⟩, st⟩ | ⟨q, vm₁, ⟨U', l2, c2, s2⟩, hW₁, X', ⟨g', mk, t, L, E, ce, e1, e2, hq, hce, hcv, hcl, h1, hL, h2, h3⟩, st⟩
  · dsimp only [Pt.U, Pt.locs, Pt.cells, Pt.slots] at X' e1 e2 h1 h2 h3 st
    subst h1; subst h2; subst h3
    exact Or.inl ⟨v, (T.setVm vm₁).calling g' mk As.toArray, t, U', L, hT, X', hL, e1, e2, hq, st⟩
  · dsimp only [Pt.U, Pt.locs, Pt.cells, Pt.slots] at X' e1 e2 h1 h2 h3 st hcl
    subst h1; subst h2; subst h3
    exact Or.inr ⟨q, (T.setVm vm₁).calling g' mk As.toArray, t, U', L, E, ce, hT, X', hL, e1, e2, hq, hce, hcv, vx_cls hW₁ hcl, st⟩
end
end VXH
theorem vx_ofWH {l : Launch} {y : MethodName} {ws ws' : List Cond} {rm : Room} {Pc : Array Value → State → Prop} {Qc : Array Value → State → Outcome → State → Prop} {XC : String → State → State → Prop} {mc ms : Nat} {free : Addr → Prop} {cc : ByteArray} {maxL : Nat} {ret : Option FieldType} {hh : List (Nat × Nat × Nat × Nat)}
    (hy : plainName y.cls = true) (hw : ws = Cond.codeWith y cc maxL ret hh :: ws')
    (body : ∀ p e s m args below meth c s₁, BodyLoose p l y (headSpec ws rm) cc maxL ret e s m args below meth c s₁ → c.maxLocals = maxL → Pc args s →
      W p l e (headSpec ws rm).room s m args below meth c s.heap [] 0 0 (vx_MQ below Qc XC args s mc ms free) (entryFrame m args maxL)) : vx_Met l y ws rm Pc Qc XC mc ms free := by
  refine MetFree.of_bodyS (code := cc) (maxLocals := maxL) (ret := ret) hy ?_ ?_
  · intro args s m h hn
    obtain ⟨m9, meth, c, hn9, h1, h2, h3, h4, -, h5, h6, -⟩ := Cond.codeWith_spec (atoms_spec (ws := ws) h _ (by rw [hw]; exact List.mem_cons_self))
    cases hn.symm.trans hn9
    exact ⟨meth, c, h1, h2, h3, h4, h5, h6⟩
  · intro p e s m args below meth c s₁ B hml hP _
    have hh0 : s₁.heap = s.heap := by rw [B.state]; rfl
    obtain ⟨t, a1, o, b1, b2, b3⟩ := body p e s m args below meth c s₁ B hml hP s₁ hh0 (Stand.of_body B)
    exact ⟨t, o, a1, b1, b2, b3⟩
/-! ===== END ===== -/

/-! ===== BEGIN what the machine throws by itself, no traces kept ===== -/
section VXM
set_option maxHeartbeats 1000000 in
/-- the machine throws cls with the message text, no traces kept: from its note over the frame g to 'throwing' over the same frame (follows the proofs of Stand.vmThrowsMessage, Shelf/KitTracedVmS.lean, and Stand.throwsMessageColdBareV, StandMessageColdV.lean, without the step out of the frame) -/
theorem vx_vmAt {p : Program} {l : Launch} {e : Env} {R : Room} {s : State} {m₀ : MethodId} {args : Array Value} {below : List Frame} {meth : Method} {c : Code} {W : State} {locs : List Loc} {cells slots : Nat}
    (X : Stand p l e R s m₀ args below meth c W locs cells slots) (hexec : p.tables.exec = Jvm.exec) (htr : e.platform.stackTraces = false) {cls : String} {names : List String} {text : String}
    (hcls : Bundle.fit cls = true) (hnames : ∀ n ∈ names, Bundle.fit n = true) (hsoe : (cls == "java/lang/StackOverflowError") = false) (hoom : (cls == "java/lang/OutOfMemoryError") = false)
    (h : ∀ a ∈ Bundle.messageArmAtoms cls names, a.before args s = true)
    (hlocs : ∀ x ∈ locs, ∀ cell, s.heap[x.base]? = some cell → cell.vm.isStatics = false)
    (htext : (text == notModelled) = false) (hlimit : ¬ (stringBytes (stringToUtf16 text)).size > e.platform.arrayLengthLimit) (hheap : ¬ (stringBytes (stringToUtf16 text)).size * componentBytes .byte > e.platform.maxHeapBytes)
    {g : JFrame} (hg : g.method = m₀) (hsize : g.locals.size = c.maxLocals)
    (hRframes : names.length + 4 < R.frames) (hRlocals : 2 * g.monitorRoom + (g.stack.map fun v => v.category).sum + 10240 ≤ R.locals) (hshort : 13 * names.length + 55 ≤ 10240)
    (hRcells : cells + 3 ≤ R.cells) (hRslots : slots + ((stringBytes (stringToUtf16 text)).size + 4 + 6) ≤ R.slots) (hlocks : meth.locks = false) :
    ∃ (S : State) (q : Addr) (ce : Cell), (∀ target, Steps p.tables e below ((S.setTop g).pushFrame (.throwing q)) target → Steps p.tables e below ((W.setTop g).pushFrame (.throwNew cls (some text) none)) target) ∧
      Stand p l e R s m₀ args below meth c S locs (cells + 3) (slots + ((stringBytes (stringToUtf16 text)).size + 4 + 6)) ∧ S.heap[q]? = some ce ∧ s.vm.findClass cls = some ce.cls ∧ ce.vm = .none := by
  have howns : e.platform.frameOwnsMonitors = true := by rw [X.admits.platform]
  have hfin : e.platform.finalization = false := by rw [X.admits.platform]
  have hpl : e.platform.magicAccessors = ({} : Platform).magicAccessors := by rw [X.admits.platform]
  have a : ∀ x, x ∈ Bundle.messageArmAtoms cls names → x.holds args s none s [] = true := fun x hx => h x hx
  obtain ⟨T, Z0, L, -, Y⟩ := ThrowableC.of_atoms (args := args) howns hfin hpl (fun x hx => h x (by simp [Bundle.messageArmAtoms, hx]))
  obtain ⟨Z, M, LZ, LM, hnZ⟩ := Init0T.ofS_atoms (args := args) hpl L Y (fun x hx => h x (by simp [Bundle.messageArmAtoms, hx]))
  obtain ⟨P1, Ps, hlen, L1, hL, hP1m, hlink1, hlink⟩ := Bundle.chainS (args := args) hpl hnZ names cls hcls hnames (fun x hx => h x (by simp [Bundle.messageArmAtoms, hx]))
  obtain ⟨Zs, LZs, hn4, hfitv, hfitc⟩ := StringT.of_atoms (args := args) (fun x hx => h x (by simp [Bundle.messageArmAtoms, hx]))
  have hfound : s.vm.findClass cls = some P1.m.cls := findClass_of_methodNamed hP1m
  obtain ⟨c1, kX, hc1, hk, hord, -, -, hn6⟩ := Cond.instantiable_spec (a (.instantiable cls 6) (by simp [Bundle.messageArmAtoms]))
  cases Option.some.inj (hc1.symm.trans hfound)
  have hinit := Cond.initialized_spec hfound hk (a (.initialized cls) (by simp [Bundle.messageArmAtoms]))
  have hctor : kX.findMethod "<init>" "(Ljava/lang/String;)V" = some P1.m.idx := findMethod_of_methodNamed hP1m hk
  have hsel0 : selectMethod e.platform s.vm P1.m.cls T.fill0 = .method T.fill0 := by
    obtain ⟨c2, r2, m2, q1, q2, q3, q4, -⟩ := Cond.selects_spec (a (.selects cls Bundle.tFill0 Bundle.tFill0) (by simp [Bundle.messageArmAtoms]))
    cases Option.some.inj (q1.symm.trans hfound)
    cases Option.some.inj (q2.symm.trans (State.methodFound?_of_named Y.fill0 (by decide)))
    cases Option.some.inj (q3.symm.trans Y.fill0)
    rw [Launch.admits_selectMethod X.admits]; exact q4
  have hselF : selectMethod e.platform s.vm P1.m.cls T.fill = .method T.fill := by
    obtain ⟨c2, r2, m2, q1, q2, q3, q4, -⟩ := Cond.selects_spec (a (.selects cls Bundle.tFill Bundle.tFill) (by simp [Bundle.messageArmAtoms]))
    cases Option.some.inj (q1.symm.trans hfound)
    cases Option.some.inj (q2.symm.trans (State.methodFound?_of_named Y.fill (by decide)))
    cases Option.some.inj (q3.symm.trans Y.fill)
    rw [Launch.admits_selectMethod X.admits]; exact q4
  obtain ⟨cellS0, hcS0, hiss⟩ := Y.statics
  obtain ⟨u0, hu0⟩ := Cond.staticRefV Y.unassigned L.unassignedStatic L.statics hcS0 hiss (a (.isRef (.static Bundle.tN "UNASSIGNED_STACK" Bundle.steD)) (by simp [Bundle.messageArmAtoms]))
  obtain ⟨sen, hsen⟩ := Cond.staticRefV Y.sentinel L.sentinelStatic L.statics hcS0 hiss (a (.isRef (.static Bundle.tN "SUPPRESSED_SENTINEL" Bundle.listD)) (by simp [Bundle.messageArmAtoms]))
  obtain ⟨ci198, i198, fB, hk198, hg198, ha198, hsB, -, hnB, htB, hffB⟩ := Cond.ownField (t := .object "java/lang/Object") Y.found L.cls (by decide +kernel) (a (.fieldLink Bundle.tN 198 Bundle.tN "backtrace" "Ljava/lang/Object;") (by simp [Bundle.messageArmAtoms])) (a (.lays Bundle.tN Bundle.tN "backtrace" "Ljava/lang/Object;") (by simp [Bundle.messageArmAtoms])) e.platform hpl
  obtain ⟨cellS, hcS', heS, -, hkeep⟩ := X.same.2.2.2.2.2 T.aS cellS0 hcS0
  have hcellS : W.heap[T.aS]? = some cellS := hcS'
  have hout' : ∀ i, (⟨T.aS, i⟩ : Loc) ∉ locs := fun i hmem => by
    have := hlocs _ hmem cellS0 hcS0
    rw [hiss] at this; cases this
  have hknownS : cellS.vm ≠ .unknown := by
    rw [heS]; intro hu
    rw [show cellS0.vm = .unknown from hu] at hiss
    cases hiss
  have hvU : cellS.slots[T.fUnassigned.slot]? = some u0.v := by rw [hkeep _ (hout' _)]; exact hu0
  have hvSen : cellS.slots[T.fSentinel.slot]? = some sen.v := by rw [hkeep _ (hout' _)]; exact hsen
  obtain ⟨iM, hffM⟩ := Y.msg
  obtain ⟨tyC, dC, hdC, hdnC⟩ := Cond.laysAt hfound hk Y.cause (a (.lays cls Bundle.tN "cause" "Ljava/lang/Throwable;") (by simp [Bundle.messageArmAtoms]))
  obtain ⟨tyS, dS, hdS, hdnS⟩ := Cond.laysAt hfound hk Y.stack (a (.lays cls Bundle.tN "stackTrace" Bundle.steD) (by simp [Bundle.messageArmAtoms]))
  obtain ⟨tyP, dP, hdP, hdnP⟩ := Cond.laysAt hfound hk Y.supp (a (.lays cls Bundle.tN "suppressedExceptions" Bundle.listD) (by simp [Bundle.messageArmAtoms]))
  obtain ⟨tyM, dM, hdM, hdnM⟩ := Cond.laysAt hfound hk hffM (a (.lays cls Bundle.tN "detailMessage" "Ljava/lang/String;") (by simp [Bundle.messageArmAtoms]))
  obtain ⟨tyB, dB, hdB, hdnB⟩ := Cond.laysAt hfound hk hffB (a (.lays cls Bundle.tN "backtrace" "Ljava/lang/Object;") (by simp [Bundle.messageArmAtoms]))
  have bC := Cond.laysApart hdB hdC hdnB hdnC (by rw [hnB, Y.causeName]; decide)
  have bS := Cond.laysApart hdB hdS hdnB hdnS (by rw [hnB, Y.stackName]; decide)
  have bP := Cond.laysApart hdB hdP hdnB hdnP (by rw [hnB, Y.suppName]; decide)
  have hbk : ((preparedCellV T.toThrowableT (freshCell P1.m.cls kX) (W.heap.size + 2) u0 sen).withEntry W.cur).slots[fB.slot]? = some .null := by
    have := fresh_default (c := P1.m.cls) tyB
    rw [htB] at this
    simpa [preparedCellV, Cell.setSlot, Cell.withEntry, Array.getElem?_setIfInBounds, bC, bS, bP, bC.symm, bS.symm, bP.symm, defaultValue] using this
  have tkC := Takes.of_laid (v := .ref (W.heap.size + 2)) hk hord tyC (by rw [Y.causeType]; rfl)
  have tkS := Takes.of_laid (v := u0.v) hk hord tyS (by rw [Y.stackType]; exact fits_refV_array _ u0)
  have tkP := Takes.of_laid (v := sen.v) hk hord tyP (by rw [Y.suppType]; exact fits_refV_object _ sen)
  have tkM := Takes.of_laid (v := .ref (W.heap.size + 1)) hk hord tyM (by rw [Y.msgType]; rfl)
  have hskip : SkipFacts T e.platform s (fun u => u) u0 ((preparedCellV T.toThrowableT (freshCell P1.m.cls kX) (W.heap.size + 2) u0 sen).withEntry W.cur) := ⟨{ ci198 := ci198, i198 := i198, fBack := fB }, ⟨hk198, hg198, ha198, hsB⟩, hbk, fun _ _ => rfl⟩
  have h0 : At W g.method c below := by rw [hg]; exact X.here
  obtain ⟨hbeyond, hfreeW⟩ := X.vmMayThrow hsize (.throwNew cls (some text) none) (fun f hf => by cases hf) rfl hRlocals
  have hfr' : W.frames.length + Ps.length + 4 < (e.platform.stackLimits W.me).1 := by have := X.framesAbove hRframes; omega
  have hwd' : (stackUse (.java g :: W.frames.tail)).2 + 13 * Ps.length + 55 ≤ (e.platform.stackLimits W.me).2 := by have := X.stackAbove hsize (K := 13 * Ps.length + 55) (by omega); omega
  have hslots : W.slotsUsed + (stringBytes (stringToUtf16 text)).size + Zs.kS.instanceTypes.size + kX.instanceTypes.size ≤ e.platform.maxSlots := by
    have := X.slotsAbove hRslots
    rw [hn4, hn6]
    omega
  obtain ⟨vm', hW', st⟩ := Steps.vmThrowsMessageColdByV p (s₀ := s) (S := W) (g := g) h0 hexec T L Z LZ M LM X.warmed (t := W.cur) rfl Zs LZs P1 L1 Ps hL hlink1 hlink hsoe hoom hfound hk hinit hord hctor
    (Launch.admits_hotImplicitExceptions X.admits) hbeyond hfreeW htext hlimit hheap (X.cellsAbove hRcells) hslots (hfitv _) (hfitc _)
    (Nn := fun u => u) heapOnly_id (fun _ _ => rfl) (fun _ => rfl) (fun u x y => setCell_twice _ _ _ _) (fun _ => Nat.le_refl _) (cN := ((preparedCellV T.toThrowableT (freshCell P1.m.cls kX) (W.heap.size + 2) u0 sen).withEntry W.cur))
    hsel0 hcellS hknownS hvU tkS (fun _ hu => hu) (fun _ hu => hu) rfl rfl rfl (by simp [preparedCellV, Cell.setSlot, Cell.withEntry]) hskip (fun _ _ hA hW _ hroom _ hrest => L.nativeOff p htr hA hW hroom hrest) hselF hvSen tkC tkP tkM Y.objLocals rfl hfr' hwd'
  rw [plainBareV_eq T.toThrowableT (W.heap.size + 2) u0 sen (.ref (W.heap.size + 1)) W.cur rfl rfl] at st
  obtain ⟨-, -, w3, w4, -, -, -⟩ := withThrown_facts e.platform W Zs text P1.m.cls kX
  have X3 := ((X.pushed (bytesOf Zs.cB (stringToUtf16 text))).pushed (stringAt Zs.cS Zs.kS Zs.fv Zs.fc (stringToUtf16 text) W.heap.size)).pushed (freshCell P1.m.cls kX)
  rw [← withString_eq] at X3
  have X4 := X3.noted hW'
  have ha : (W.heap.size + 2) < ((withThrown W Zs text P1.m.cls kX).setVm vm').heap.size := by show _ < (withThrown W Zs text P1.m.cls kX).heap.size; rw [w3]; omega
  have hcell : ((withThrown W Zs text P1.m.cls kX).setVm vm').heap[(W.heap.size + 2)]? = some (freshCell P1.m.cls kX) := w4
  have X5 := ((((X4.stored hcell T.fCause.slot (.ref (W.heap.size + 2))).storedAgain ha T.fStack.slot u0.v).storedAgain ha T.fSupp.slot sen.v).storedAgain ha T.fStack.slot u0.v).storedAgain ha T.fMsg.slot (.ref (W.heap.size + 1))
  obtain ⟨g₁, hfrM⟩ := X5.frames_eq
  have hU : ((((withThrown W Zs text P1.m.cls kX).setVm vm').setCell (W.heap.size + 2) (plainBareV T.toThrowableT (freshCell P1.m.cls kX) (W.heap.size + 2) u0 sen (.ref (W.heap.size + 1)))).setTop g).pushFrame (.throwing (W.heap.size + 2)) = (((withThrown W Zs text P1.m.cls kX).setVm vm').setCell (W.heap.size + 2) (plainBareV T.toThrowableT (freshCell P1.m.cls kX) (W.heap.size + 2) u0 sen (.ref (W.heap.size + 1)))).setFrames (.throwing (W.heap.size + 2) :: .java g :: below) := by
    rw [State.pushFrame, State.frames_setTop _ hfrM, State.setTop_of_frames _ hfrM, State.setFrames_setFrames]
  have b1 : (bytesOf Zs.cB (stringToUtf16 text)).slots.size = (stringBytes (stringToUtf16 text)).size := by
    rw [(Cell.writeAll_facts _ _).2.2]; simp [bytes0]
  have b2 : (stringAt Zs.cS Zs.kS Zs.fv Zs.fc (stringToUtf16 text) W.heap.size).slots.size = 4 := by simp [string0, Cell.setSlot, hn4]
  have b3 : (freshCell P1.m.cls kX).slots.size = 6 := by simp [hn6]
  rw [b1, b2, b3] at X5
  have e9 : slots + (stringBytes (stringToUtf16 text)).size + 4 + 6 = slots + ((stringBytes (stringToUtf16 text)).size + 4 + 6) := by omega
  rw [e9] at X5
  simp only [List.append_assoc, List.cons_append, List.nil_append] at X5
  refine ⟨((withThrown W Zs text P1.m.cls kX).setVm vm').setCell (W.heap.size + 2) (plainBareV T.toThrowableT (freshCell P1.m.cls kX) (W.heap.size + 2) u0 sen (.ref (W.heap.size + 1))), W.heap.size + 2, _, fun target ht => st _ (by rw [X.tail, ← hU]; exact ht),
    X5.forget (fun y hy => ?_), heapAt_setCell_self _ ha, hfound, rfl⟩
  simp only [List.mem_cons, List.not_mem_nil, or_false] at hy
  have hge : s.heap.size ≤ W.heap.size := X.same.2.1
  rcases hy with rfl | rfl | rfl | rfl | rfl <;> exact Nat.le_trans hge (Nat.le_add_right _ 2)
set_option maxHeartbeats 1000000 in
/-- the machine throws NullPointerException, no traces kept: from its note over the frame g to 'throwing' over the same frame (follows the proof of Stand.vmThrowsNpe, Shelf42/KT2.lean; throwsNpeColdBareVAt, Shelf42/NT91.lean, called) -/
theorem vx_npeAt {p : Program} {l : Launch} {e : Env} {R : Room} {s : State} {m₀ : MethodId} {args : Array Value} {below : List Frame} {meth : Method} {c : Code} {W : State} {locs : List Loc} {cells slots : Nat}
    (X : Stand p l e R s m₀ args below meth c W locs cells slots) (hexec : p.tables.exec = Jvm.exec) (htr : e.platform.stackTraces = false) {n : Nat}
    (h : ∀ a ∈ Bundle.npeArmAtoms n, a.before args s = true)
    (hlocs : ∀ x ∈ locs, ∀ cell, s.heap[x.base]? = some cell → cell.vm.isStatics = false)
    {g : JFrame} (hg : g.method = m₀) (hsize : g.locals.size = c.maxLocals)
    (hRframes : 7 < R.frames) (hRlocals : 2 * g.monitorRoom + (g.stack.map fun v => v.category).sum + 10240 ≤ R.locals)
    (hRcells : cells + 1 ≤ R.cells) (hRslots : slots + n ≤ R.slots) (hlocks : meth.locks = false) :
    ∃ (S : State) (q : Addr) (ce : Cell), (∀ target, Steps p.tables e below ((S.setTop g).pushFrame (.throwing q)) target → Steps p.tables e below ((W.setTop g).pushFrame (.throwNew "java/lang/NullPointerException" none none)) target) ∧
      Stand p l e R s m₀ args below meth c S locs (cells + 1) (slots + n) ∧ S.heap[q]? = some ce ∧ s.vm.findClass "java/lang/NullPointerException" = some ce.cls ∧ ce.vm = .none := by
  have howns : e.platform.frameOwnsMonitors = true := by rw [X.admits.platform]
  have hfin : e.platform.finalization = false := by rw [X.admits.platform]
  have hpl : e.platform.magicAccessors = ({} : Platform).magicAccessors := by rw [X.admits.platform]
  have hpl2 : e.platform.arrayCloneIsPublic = true := by rw [X.admits.platform]
  have a' : ∀ x, x ∈ Bundle.npeArmAtoms n → x.holds args s none s [] = true := fun x hx => h x hx
  obtain ⟨T, Z, L, LZ, Y⟩ := ThrowableC.of_atoms (args := args) howns hfin hpl (fun x hx => h x (by simp [Bundle.npeArmAtoms, hx]))
  obtain ⟨N, LN, hcN, hnNF, hordN, hffS⟩ := NpeC.of_atoms (args := args) hpl hpl2 L Y (fun x hx => h x (by simp [Bundle.npeArmAtoms, hx]))
  obtain ⟨P1, L1, hP1m, hP1s⟩ := PassC.of_atoms (args := args) (s := s) hpl (X := Bundle.nN) (Y := Bundle.rN) (by decide) (by decide) LibCode.NullPointerException.Init0.at_0 LibCode.NullPointerException.Init0.at_1 LibCode.NullPointerException.Init0.at_4 (fun x hx => h x (by simp [Bundle.npeArmAtoms, hx]))
  obtain ⟨PR, LR, hPRm, hPRs⟩ := PassC.of_atoms (args := args) (s := s) hpl (X := Bundle.rN) (Y := Bundle.eN) (by decide) (by decide) LibCode.RuntimeException.Init0.at_0 LibCode.RuntimeException.Init0.at_1 LibCode.RuntimeException.Init0.at_4 (fun x hx => h x (by simp [Bundle.npeArmAtoms, hx]))
  obtain ⟨PE, LEx, hPEm, hPEs⟩ := PassC.of_atoms (args := args) (s := s) hpl (X := Bundle.eN) (Y := Bundle.tN) (by decide) (by decide) LibCode.Exception.Init0.at_0 LibCode.Exception.Init0.at_1 LibCode.Exception.Init0.at_4 (fun x hx => h x (by simp [Bundle.npeArmAtoms, hx]))
  have hfound : s.vm.findClass Bundle.nN = some P1.m.cls := findClass_of_methodNamed hP1m
  have ecls : N.cN = P1.m.cls := Option.some.inj (hcN.symm.trans hfound)
  have hk : s.vm.classes[P1.m.cls]? = some N.kN := by rw [← ecls]; exact LN.cls
  have hinit := Cond.initialized_spec hfound hk (a' (.initialized Bundle.nN) (by simp [Bundle.npeArmAtoms]))
  have hctor : N.kN.findMethod "<init>" "()V" = some P1.m.idx := findMethod_of_methodNamed hP1m hk
  obtain ⟨c1, k1, hc1, hk1, -, -, -, hn⟩ := Cond.instantiable_spec (a' (.instantiable Bundle.nN n) (by simp [Bundle.npeArmAtoms]))
  cases Option.some.inj (hc1.symm.trans hfound)
  cases Option.some.inj (hk1.symm.trans hk)
  have hfsz : (freshCell P1.m.cls N.kN).slots.size = n := by simp [hn]
  have hlink1 : P1.sup = PR.m := Option.some.inj (hP1s.symm.trans hPRm)
  have hlinkR : PR.sup = PE.m := Option.some.inj (hPRs.symm.trans hPEm)
  have hlinkE : PE.sup = Z.m T.toThrowableT := Option.some.inj (hPEs.symm.trans Y.init0)
  have hLs : ∀ P, P ∈ [PR, PE] → P.Links0 e.platform s := fun P hP => by
    simp only [List.mem_cons, List.not_mem_nil, or_false] at hP
    rcases hP with rfl | rfl
    · exact LR
    · exact LEx
  have hsel0 : selectMethod e.platform s.vm P1.m.cls T.fill0 = .method T.fill0 := by
    obtain ⟨c2, r2, m2, q1, q2, q3, q4, -⟩ := Cond.selects_spec (a' (.selects Bundle.nN Bundle.tFill0 Bundle.tFill0) (by simp [Bundle.npeArmAtoms]))
    cases Option.some.inj (q1.symm.trans hfound)
    cases Option.some.inj (q2.symm.trans (State.methodFound?_of_named Y.fill0 (by decide)))
    cases Option.some.inj (q3.symm.trans Y.fill0)
    rw [Launch.admits_selectMethod X.admits]; exact q4
  have hselF : selectMethod e.platform s.vm P1.m.cls T.fill = .method N.fill := by
    obtain ⟨c2, r2, m2, q1, q2, q3, q4, -⟩ := Cond.selects_spec (a' (.selects Bundle.nN Bundle.tFill Bundle.nFill) (by simp [Bundle.npeArmAtoms]))
    cases Option.some.inj (q1.symm.trans hfound)
    cases Option.some.inj (q2.symm.trans (State.methodFound?_of_named Y.fill (by decide)))
    cases Option.some.inj (q3.symm.trans hnNF)
    rw [Launch.admits_selectMethod X.admits]; exact q4
  obtain ⟨cellS0, hcS0, hiss⟩ := Y.statics
  obtain ⟨u0, hu0⟩ := Cond.staticRefV Y.unassigned L.unassignedStatic L.statics hcS0 hiss (a' (.isRef (.static Bundle.tN "UNASSIGNED_STACK" Bundle.steD)) (by simp [Bundle.npeArmAtoms]))
  obtain ⟨sen, hsen⟩ := Cond.staticRefV Y.sentinel L.sentinelStatic L.statics hcS0 hiss (a' (.isRef (.static Bundle.tN "SUPPRESSED_SENTINEL" Bundle.listD)) (by simp [Bundle.npeArmAtoms]))
  obtain ⟨ci198, i198, fB, hk198, hg198, ha198, hsB, -, hnB, htB, hffB⟩ := Cond.ownField (t := .object "java/lang/Object") Y.found L.cls (by decide +kernel) (a' (.fieldLink Bundle.tN 198 Bundle.tN "backtrace" Bundle.objD) (by simp [Bundle.npeArmAtoms])) (a' (.lays Bundle.tN Bundle.tN "backtrace" Bundle.objD) (by simp [Bundle.npeArmAtoms])) e.platform hpl
  obtain ⟨cellS, hcS', heS, -, hkeep⟩ := X.same.2.2.2.2.2 T.aS cellS0 hcS0
  have hcellS : W.heap[T.aS]? = some cellS := hcS'
  have hout' : ∀ i, (⟨T.aS, i⟩ : Loc) ∉ locs := fun i hmem => by
    have := hlocs _ hmem cellS0 hcS0
    rw [hiss] at this; cases this
  have hknownS : cellS.vm ≠ .unknown := by
    rw [heS]; intro hu
    rw [show cellS0.vm = .unknown from hu] at hiss
    cases hiss
  have hvU : cellS.slots[T.fUnassigned.slot]? = some u0.v := by rw [hkeep _ (hout' _)]; exact hu0
  have hvSen : cellS.slots[T.fSentinel.slot]? = some sen.v := by rw [hkeep _ (hout' _)]; exact hsen
  obtain ⟨tyC, dC, hdC, hdnC⟩ := Cond.laysAt hfound hk Y.cause (a' (.lays Bundle.nN Bundle.tN "cause" "Ljava/lang/Throwable;") (by simp [Bundle.npeArmAtoms]))
  obtain ⟨tyS, dS, hdS, hdnS⟩ := Cond.laysAt hfound hk Y.stack (a' (.lays Bundle.nN Bundle.tN "stackTrace" Bundle.steD) (by simp [Bundle.npeArmAtoms]))
  obtain ⟨tyP, dP, hdP, hdnP⟩ := Cond.laysAt hfound hk Y.supp (a' (.lays Bundle.nN Bundle.tN "suppressedExceptions" Bundle.listD) (by simp [Bundle.npeArmAtoms]))
  obtain ⟨tyX, dX, hdX, hdnX⟩ := Cond.laysAt hfound hk hffS (a' (.lays Bundle.nN Bundle.nN "extendedMessageState" "I") (by simp [Bundle.npeArmAtoms, Bundle.npeAtoms]))
  obtain ⟨hnX, htX⟩ := State.fieldFound?_type hffS (t := .int) (by decide +kernel)
  have xC := Cond.laysApart hdC hdX hdnC hdnX (by rw [hnX, Y.causeName]; decide)
  have xS := Cond.laysApart hdS hdX hdnS hdnX (by rw [hnX, Y.stackName]; decide)
  have xP := Cond.laysApart hdP hdX hdnP hdnX (by rw [hnX, Y.suppName]; decide)
  have hv0 : (freshCell P1.m.cls N.kN).slots[N.fState.slot]? = some (.int 0) := by
    have := fresh_default (c := P1.m.cls) tyX
    rw [htX] at this; exact this
  obtain ⟨tyB, dB, hdB, hdnB⟩ := Cond.laysAt hfound hk hffB (a' (.lays Bundle.nN Bundle.tN "backtrace" Bundle.objD) (by simp [Bundle.npeArmAtoms]))
  have bC := Cond.laysApart hdB hdC hdnB hdnC (by rw [hnB, Y.causeName]; decide)
  have bS := Cond.laysApart hdB hdS hdnB hdnS (by rw [hnB, Y.stackName]; decide)
  have bP := Cond.laysApart hdB hdP hdnB hdnP (by rw [hnB, Y.suppName]; decide)
  have bX := Cond.laysApart hdB hdX hdnB hdnX (by rw [hnB, hnX]; decide)
  have hbk : ((npeCell N.toNpeT (preparedCellV T.toThrowableT (freshCell P1.m.cls N.kN) W.heap.size u0 sen) W.cur).withEntry W.cur).slots[fB.slot]? = some .null := by
    have := fresh_default (c := P1.m.cls) tyB
    rw [htB] at this
    simpa [npeCell, preparedCellV, Cell.setSlot, Cell.withEntry, Array.getElem?_setIfInBounds, bC, bS, bP, bX, bC.symm, bS.symm, bP.symm, bX.symm, defaultValue] using this
  have tkC := Takes.of_laid (v := .ref W.heap.size) hk hordN tyC (by rw [Y.causeType]; rfl)
  have tkS := Takes.of_laid (v := u0.v) hk hordN tyS (by rw [Y.stackType]; exact fits_refV_array _ u0)
  have tkP := Takes.of_laid (v := sen.v) hk hordN tyP (by rw [Y.suppType]; exact fits_refV_object _ sen)
  have tkX := Takes.of_laid (v := .int 1) hk hordN tyX (by rw [htX]; rfl)
  have hskip : SkipFacts T e.platform s (fun u => u) u0 ((npeCell N.toNpeT (preparedCellV T.toThrowableT (freshCell P1.m.cls N.kN) W.heap.size u0 sen) W.cur).withEntry W.cur) := ⟨{ ci198 := ci198, i198 := i198, fBack := fB }, ⟨hk198, hg198, ha198, hsB⟩, hbk, fun _ _ => rfl⟩
  obtain ⟨vm', X3, st, -⟩ := X.throwsNpeColdBareVAt hexec hg hsize T L Z LZ N LN P1 L1 [PR, PE] hLs hlink1 ⟨hlinkR, hlinkE, trivial⟩ hfound hk hinit hordN hctor hsel0 hselF hcellS hknownS hvU hvSen
    hv0 xC xS xP tkC tkS tkP tkX Y.objLocals hskip (fun _ _ hA hW _ hroom _ hrest => L.nativeOff p htr hA hW hroom hrest) (by simpa using hRframes) hRlocals (by simp) hRcells (by rw [hn]; exact hRslots)
  have hlt : W.heap.size < ((W.pushCell (freshCell P1.m.cls N.kN)).setVm vm').heap.size := by
    show W.heap.size < (W.pushCell (freshCell P1.m.cls N.kN)).heap.size
    rw [State.heap_size_pushCell]; omega
  rw [hfsz] at X3
  obtain ⟨g₁, hfrM⟩ := X3.frames_eq
  have hU : ((((W.pushCell (freshCell P1.m.cls N.kN)).setVm vm').setCell W.heap.size (npeBareV T.toThrowableT N.toNpeT (freshCell P1.m.cls N.kN) W.heap.size u0 sen)).setTop g).pushFrame (.throwing W.heap.size) = (((W.pushCell (freshCell P1.m.cls N.kN)).setVm vm').setCell W.heap.size (npeBareV T.toThrowableT N.toNpeT (freshCell P1.m.cls N.kN) W.heap.size u0 sen)).setFrames (.throwing W.heap.size :: .java g :: below) := by
    rw [State.pushFrame, State.frames_setTop _ hfrM, State.setTop_of_frames _ hfrM, State.setFrames_setFrames]
  refine ⟨_, W.heap.size, _, fun target ht => st.trans (by rw [← hU]; exact ht), X3.forget (fun y hy => ?_), heapAt_setCell_self _ hlt, hfound, rfl⟩
  simp only [List.mem_cons, List.not_mem_nil, or_false] at hy
  have hge : s.heap.size ≤ W.heap.size := X.same.2.1
  rcases hy with rfl | rfl | rfl | rfl | rfl <;> exact hge
/-- the words of a machine's NullPointerException, but the four that speak of the heap -/
def vx_atN (n : Nat) : List Cond := (Bundle.npeArmAtoms n).filter vx_no
/-- the words of a machine's throw with a message, but the four that speak of the heap -/
def vx_atM (X : String) (names : List String) : List Cond := (Bundle.messageArmAtoms X names).filter vx_no
section
variable {p : Program} {l : Launch} {e : Env} {R : Room} {s : State} {m : MethodId} {args : Array Value} {below : List Frame} {meth : Method} {c : Code} {H : Heap} {locs : List Loc} {cells slots : Nat}
/-- a frame seen from a rebased start, seen from the first start again -/
theorem vx_back9 {T S : State} {R' : Room} {k n : Nat} (X : Stand p l e R s m args below meth c T locs cells slots) (Y : Stand p l e R' ((T.setVm s.vm).setFrames (.invoking m args :: below)) m args below meth c T [] 0 0) (Z : Stand p l e R' ((T.setVm s.vm).setFrames (.invoking m args :: below)) m args below meth c S [] k n) :
    Stand p l e R s m args below meth c S locs (cells + k) (slots + n) := by
  have hW0 : s.WarmedH ((T.setVm s.vm).setFrames (.invoking m args :: below)).vm := State.WarmedH.refl s
  refine { admits := X.admits, cas := X.cas, clock := X.clock, frames := X.frames, room := X.room, hears := X.hears, method := X.method, code := X.code, here := Z.here, tail := Z.tail, warmed := State.WarmedH.trans hW0 Z.warmed, limits := Z.limits.trans (Y.limits.symm.trans X.limits), bytes := Z.bytes.trans (Y.bytes.symm.trans X.bytes), same := ?_ }
  obtain ⟨e1, e2⟩ := Z.same
  rw [State.setFrames_setFrames] at e1
  have h2 : (T.setVm s.vm).sameButNew (S.setVm s.vm) [] k n := ⟨e1, e2⟩
  have h3 := X.same.trans h2
  rw [List.append_nil] at h3
  exact h3
/-- from the machine's note that E is thrown here with this text -/
def vx_Note (p : Program) (l : Launch) (e : Env) (R : Room) (s : State) (m : MethodId) (args : Array Value) (below : List Frame) (meth : Method) (c : Code) (H : Heap) (locs : List Loc) (cells slots : Nat) (Q : State → Prop) (g : JFrame) (E text : String) : Prop :=
  ∀ T : State, T.heap = H → Stand p l e R s m args below meth c T locs cells slots → ∃ t, Steps p.tables e below ((T.setTop g).pushFrame (.throwNew E (some text) none)) t ∧ Q t
theorem vx_vm {pc : Nat} {ls : Array Slot} {rest : List Value} {Q : State → Prop} (hexec : p.tables.exec = Jvm.exec) (hl : l.stackTraces = false) {cls text : String} {names : List String} {nb : Nat} {A : Nat → Prop}
    (hcls : Bundle.fit cls = true) (hnames : ∀ n ∈ names, Bundle.fit n = true) (hsoe : (cls == "java/lang/StackOverflowError") = false) (hoom : (cls == "java/lang/OutOfMemoryError") = false)
    (hat : ∀ w ∈ vx_atM cls names, w.before args s = true) (hgood : ∀ w ∈ vx_atM cls names, vx_ot w = true)
    (hU : vx_Zq Bundle.tN "UNASSIGNED_STACK" Bundle.steD A s s.heap) (hN : vx_Zq Bundle.tN "SUPPRESSED_SENTINEL" Bundle.listD A s s.heap) (hS : va_S A s.heap H locs) (hsize : ls.size = c.maxLocals)
    (htext : (text == notModelled) = false) (hnb : (stringBytes (stringToUtf16 text)).size ≤ nb) (hnb1 : nb ≤ 1000)
    (hRframes : names.length + 4 < R.frames) (hRlocals : (rest.map fun v => v.category).sum + 10240 ≤ R.locals) (hshort : 13 * names.length + 55 ≤ 10240) (hRcells : cells + 3 ≤ R.cells) (hRslots : slots + (nb + 10) ≤ R.slots) (hlocks : meth.locks = false)
    (k : ∀ (H1 : Heap) (q9 : Addr) (ce : Cell), H.size ≤ H1.size → (∀ q : Nat, q < H.size → H1[q]? = H[q]?) → va_S A s.heap H1 locs → H1[q9]? = some ce → ce.vm = .none → s.vm.findClass cls = some ce.cls → vx_W p l e R s m args below meth c H1 locs (cells + 3) (slots + (nb + 10)) Q (F0 m pc ls rest) q9) :
    vx_Note p l e R s m args below meth c H locs cells slots Q (F0 m pc ls rest) cls text := by
  intro T hT X
  have htr : e.platform.stackTraces = false := (show e.platform.stackTraces = l.stackTraces by rw [X.admits.platform]).trans hl
  have Y := vx_rebase X (R' := { frames := R.frames, locals := R.locals, cells := 3, slots := nb + 10 }) (Nat.le_refl _) (Nat.le_refl _) hRcells hRslots
  have hhp : ((T.setVm s.vm).setFrames (.invoking m args :: below)).heap = H := hT
  have hW0 : s.WarmedH ((T.setVm s.vm).setFrames (.invoking m args :: below)).vm := State.WarmedH.refl s
  have hat' : ∀ w ∈ vx_atM cls names, w.before args ((T.setVm s.vm).setFrames (.invoking m args :: below)) = true := fun w hw => vx_ot_at hW0 rfl (hgood w hw) (hat w hw)
  have hU' : vx_Zq Bundle.tN "UNASSIGNED_STACK" Bundle.steD A ((T.setVm s.vm).setFrames (.invoking m args :: below)) ((T.setVm s.vm).setFrames (.invoking m args :: below)).heap := by rw [hhp]; exact vx_Zq.moved hW0.alike (hU.kept hS.2.1)
  have hN' : vx_Zq Bundle.tN "SUPPRESSED_SENTINEL" Bundle.listD A ((T.setVm s.vm).setFrames (.invoking m args :: below)) ((T.setVm s.vm).setFrames (.invoking m args :: below)).heap := by rw [hhp]; exact vx_Zq.moved hW0.alike (hN.kept hS.2.1)
  obtain ⟨S, q, ce, st, Z, hce, hcl', hv⟩ := vx_vmAt Y hexec htr (cls := cls) (names := names) (text := text) hcls hnames hsoe hoom (vx_own hat' (vx_isRefq hU'.1) (vx_isRefq hN'.1) hU'.2.word hN'.2.word) (fun x hx => nomatch hx) htext
    (by rw [Launch.admits_arrayLengthLimit X.admits]; omega) (by rw [Launch.admits_maxHeapBytes X.admits]; simp only [componentBytes]; omega)
    (g := F0 m pc ls rest) rfl hsize hRframes (by show 2 * 0 + (rest.map fun v => v.category).sum + 10240 ≤ R.locals; omega) hshort (by show 0 + 3 ≤ 3; omega) (by show 0 + (_ + 4 + 6) ≤ nb + 10; omega) hlocks
  obtain ⟨f1, f2⟩ := vx_frame Z.same
  have f1' : H.size ≤ S.heap.size := by rw [← hT]; exact f1
  have f2' : ∀ q : Nat, q < H.size → S.heap[q]? = H[q]? := fun q hq => by
    rw [← hT]
    exact f2 q (by rw [← hT] at hq; exact hq) (fun z hz => nomatch hz)
  have X5 := vx_back9 X Y Z
  have X6 : Stand p l e R s m args below meth c S locs (cells + 3) (slots + (nb + 10)) := { X5 with same := X5.same.mono (by omega) (by omega) }
  obtain ⟨t, a1, b1⟩ := k S.heap q ce f1' f2' ⟨Nat.le_trans hS.1 f1', fun q h1 h2 => (f2' q (Nat.lt_of_lt_of_le h1 hS.1)).trans (hS.2.1 q h1 h2), hS.2.2⟩ hce hv hcl' S rfl X6
  exact ⟨t, st t a1, b1⟩
/-- from the machine's note that NullPointerException is thrown here -/
def vx_NoteN (p : Program) (l : Launch) (e : Env) (R : Room) (s : State) (m : MethodId) (args : Array Value) (below : List Frame) (meth : Method) (c : Code) (H : Heap) (locs : List Loc) (cells slots : Nat) (Q : State → Prop) (g : JFrame) : Prop :=
  ∀ T : State, T.heap = H → Stand p l e R s m args below meth c T locs cells slots → ∃ t, Steps p.tables e below ((T.setTop g).pushFrame (.throwNew "java/lang/NullPointerException" none none)) t ∧ Q t
theorem vx_npe {pc : Nat} {ls : Array Slot} {rest : List Value} {Q : State → Prop} (hexec : p.tables.exec = Jvm.exec) (hl : l.stackTraces = false) {nb : Nat} {A : Nat → Prop}
    (hat : ∀ w ∈ vx_atN nb, w.before args s = true) (hgood : ∀ w ∈ vx_atN nb, vx_ot w = true)
    (hU : vx_Zq Bundle.tN "UNASSIGNED_STACK" Bundle.steD A s s.heap) (hN : vx_Zq Bundle.tN "SUPPRESSED_SENTINEL" Bundle.listD A s s.heap) (hS : va_S A s.heap H locs) (hsize : ls.size = c.maxLocals)
    (hRframes : 7 < R.frames) (hRlocals : (rest.map fun v => v.category).sum + 10240 ≤ R.locals) (hRcells : cells + 1 ≤ R.cells) (hRslots : slots + nb ≤ R.slots) (hlocks : meth.locks = false)
    (k : ∀ (H1 : Heap) (q9 : Addr) (ce : Cell), H.size ≤ H1.size → (∀ q : Nat, q < H.size → H1[q]? = H[q]?) → va_S A s.heap H1 locs → H1[q9]? = some ce → ce.vm = .none → s.vm.findClass "java/lang/NullPointerException" = some ce.cls → vx_W p l e R s m args below meth c H1 locs (cells + 1) (slots + nb) Q (F0 m pc ls rest) q9) :
    vx_NoteN p l e R s m args below meth c H locs cells slots Q (F0 m pc ls rest) := by
  intro T hT X
  have htr : e.platform.stackTraces = false := (show e.platform.stackTraces = l.stackTraces by rw [X.admits.platform]).trans hl
  have Y := vx_rebase X (R' := { frames := R.frames, locals := R.locals, cells := 1, slots := nb }) (Nat.le_refl _) (Nat.le_refl _) hRcells hRslots
  have hhp : ((T.setVm s.vm).setFrames (.invoking m args :: below)).heap = H := hT
  have hW0 : s.WarmedH ((T.setVm s.vm).setFrames (.invoking m args :: below)).vm := State.WarmedH.refl s
  have hat' : ∀ w ∈ vx_atN nb, w.before args ((T.setVm s.vm).setFrames (.invoking m args :: below)) = true := fun w hw => vx_ot_at hW0 rfl (hgood w hw) (hat w hw)
  have hU' : vx_Zq Bundle.tN "UNASSIGNED_STACK" Bundle.steD A ((T.setVm s.vm).setFrames (.invoking m args :: below)) ((T.setVm s.vm).setFrames (.invoking m args :: below)).heap := by rw [hhp]; exact vx_Zq.moved hW0.alike (hU.kept hS.2.1)
  have hN' : vx_Zq Bundle.tN "SUPPRESSED_SENTINEL" Bundle.listD A ((T.setVm s.vm).setFrames (.invoking m args :: below)) ((T.setVm s.vm).setFrames (.invoking m args :: below)).heap := by rw [hhp]; exact vx_Zq.moved hW0.alike (hN.kept hS.2.1)
  obtain ⟨S, q, ce, st, Z, hce, hcl', hv⟩ := vx_npeAt Y hexec htr (n := nb) (vx_own hat' (vx_isRefq hU'.1) (vx_isRefq hN'.1) hU'.2.word hN'.2.word) (fun x hx => nomatch hx)
    (g := F0 m pc ls rest) rfl hsize hRframes (by show 2 * 0 + (rest.map fun v => v.category).sum + 10240 ≤ R.locals; omega) (by show 0 + 1 ≤ 1; omega) (by show 0 + nb ≤ nb; omega) hlocks
  obtain ⟨f1, f2⟩ := vx_frame Z.same
  have f1' : H.size ≤ S.heap.size := by rw [← hT]; exact f1
  have f2' : ∀ q : Nat, q < H.size → S.heap[q]? = H[q]? := fun q hq => by
    rw [← hT]
    exact f2 q (by rw [← hT] at hq; exact hq) (fun z hz => nomatch hz)
  have X5 := vx_back9 X Y Z
  have X6 : Stand p l e R s m args below meth c S locs (cells + 1) (slots + nb) := { X5 with same := X5.same.mono (by omega) (by omega) }
  obtain ⟨t, a1, b1⟩ := k S.heap q ce f1' f2' ⟨Nat.le_trans hS.1 f1', fun q h1 h2 => (f2' q (Nat.lt_of_lt_of_le h1 hS.1)).trans (hS.2.1 q h1 h2), hS.2.2⟩ hce hv hcl' S rfl X6
  exact ⟨t, st t a1, b1⟩
variable {Q : State → Prop} {cc : ByteArray} {pc : Nat} {ls : Array Slot} {rest : List Value}
theorem vx_idivZ (hexec : p.tables.exec = Jvm.exec) (hb : c.code = cc) {a b : Int32} (h0 : b = 0) (d : decode cc pc = .ok (.idiv, 1)) (k : vx_Note p l e R s m args below meth c H locs cells slots Q (F0 m pc ls rest) "java/lang/ArithmeticException" "/ by zero") :
    W p l e R s m args below meth c H locs cells slots Q (F0 m pc ls (.int b :: .int a :: rest)) := by
  intro T hT X
  obtain ⟨t, st, q⟩ := k T hT X
  exact ⟨t, X.idivZero hexec (g := F0 m pc ls (.int b :: .int a :: rest)) rfl (a := a) (rest := rest) (by rw [h0]) (by rw [hb]; exact d) t st, q⟩
theorem vx_iremZ (hexec : p.tables.exec = Jvm.exec) (hb : c.code = cc) {a b : Int32} (h0 : b = 0) (d : decode cc pc = .ok (.irem, 1)) (k : vx_Note p l e R s m args below meth c H locs cells slots Q (F0 m pc ls rest) "java/lang/ArithmeticException" "/ by zero") :
    W p l e R s m args below meth c H locs cells slots Q (F0 m pc ls (.int b :: .int a :: rest)) := by
  intro T hT X
  obtain ⟨t, st, q⟩ := k T hT X
  exact ⟨t, X.iremZero hexec (g := F0 m pc ls (.int b :: .int a :: rest)) rfl (a := a) (rest := rest) (by rw [h0]) (by rw [hb]; exact d) t st, q⟩
theorem vx_ldivZ (hexec : p.tables.exec = Jvm.exec) (hb : c.code = cc) {a b : Int64} (h0 : b = 0) (d : decode cc pc = .ok (.ldiv, 1)) (k : vx_Note p l e R s m args below meth c H locs cells slots Q (F0 m pc ls rest) "java/lang/ArithmeticException" "/ by zero") :
    W p l e R s m args below meth c H locs cells slots Q (F0 m pc ls (.long b :: .long a :: rest)) := by
  intro T hT X
  obtain ⟨t, st, q⟩ := k T hT X
  exact ⟨t, X.ldivZero hexec (g := F0 m pc ls (.long b :: .long a :: rest)) rfl (a := a) (rest := rest) (by rw [h0]) (by rw [hb]; exact d) t st, q⟩
theorem vx_lremZ (hexec : p.tables.exec = Jvm.exec) (hb : c.code = cc) {a b : Int64} (h0 : b = 0) (d : decode cc pc = .ok (.lrem, 1)) (k : vx_Note p l e R s m args below meth c H locs cells slots Q (F0 m pc ls rest) "java/lang/ArithmeticException" "/ by zero") :
    W p l e R s m args below meth c H locs cells slots Q (F0 m pc ls (.long b :: .long a :: rest)) := by
  intro T hT X
  obtain ⟨t, st, q⟩ := k T hT X
  exact ⟨t, X.lremZero hexec (g := F0 m pc ls (.long b :: .long a :: rest)) rfl (a := a) (rest := rest) (by rw [h0]) (by rw [hb]; exact d) t st, q⟩
theorem vx_ialdZ {D : va_G} {cl : List vw_C} {ws : va_W} {tys : List (ClassId × FieldType)} {a : Nat} (hexec : p.tables.exec = Jvm.exec) (hb : c.code = cc) (hK : va_K D cl tys s) (hP : va_P D cl ws H) (q0 t0 : Nat) {cA : ClassId} {n : Nat} {f : Nat → Int32} (ha : ws[q0]? = some (a, .inl (cA, n, .inl f))) (ht : tys[t0]? = some (cA, .int)) {i : Int32} (hout : ¬ vp_in i n) (hdg : decode cc pc = .ok (.iaload, 1))
    (k : ∀ tx : String, tx = (toString "Index " ++ toString i ++ toString " out of bounds for length " ++ toString n : String) → vx_Note p l e R s m args below meth c H locs cells slots Q (F0 m pc ls rest) "java/lang/ArrayIndexOutOfBoundsException" tx) : W p l e R s m args below meth c H locs cells slots Q (F0 m pc ls (.int i :: .ref a :: rest)) := by
  intro T hT X
  obtain ⟨t, st, q⟩ := k _ rfl T hT X
  refine ⟨t, ?_, q⟩
  have h1 := X.ialoadOut hexec (by rw [hT]; exact hP q0 _ ha) ((hK.2 t0 _ ht).1 n (fun j => .int (f j))) (j := i) (by show (i < 0 ∨ (arrV _ _ _).slots.size ≤ _); rw [arrV_size]; exact Classical.byContradiction hout) (g := F0 m pc ls (.int i :: .ref a :: rest)) rfl (rest := rest) rfl (by rw [hb]; exact hdg) t
  simp only [arrV_size] at h1
  exact h1 st
theorem vx_iastZ {D : va_G} {cl : List vw_C} {ws : va_W} {tys : List (ClassId × FieldType)} {a : Nat} (hexec : p.tables.exec = Jvm.exec) (hb : c.code = cc) (hK : va_K D cl tys s) (hP : va_P D cl ws H) (q0 t0 : Nat) {cA : ClassId} {n : Nat} {f : Nat → Int32} (ha : ws[q0]? = some (a, .inl (cA, n, .inl f))) (ht : tys[t0]? = some (cA, .int)) {i : Int32} {x : Int32} (hout : ¬ vp_in i n) (hdg : decode cc pc = .ok (.iastore, 1))
    (k : ∀ tx : String, tx = (toString "Index " ++ toString i ++ toString " out of bounds for length " ++ toString n : String) → vx_Note p l e R s m args below meth c H locs cells slots Q (F0 m pc ls rest) "java/lang/ArrayIndexOutOfBoundsException" tx) : W p l e R s m args below meth c H locs cells slots Q (F0 m pc ls (.int x :: .int i :: .ref a :: rest)) := by
  intro T hT X
  obtain ⟨t, st, q⟩ := k _ rfl T hT X
  refine ⟨t, ?_, q⟩
  have h1 := X.iastoreOut hexec (by rw [hT]; exact hP q0 _ ha) ((hK.2 t0 _ ht).1 n (fun j => .int (f j))) (j := i) (by show (i < 0 ∨ (arrV _ _ _).slots.size ≤ _); rw [arrV_size]; exact Classical.byContradiction hout) (g := F0 m pc ls (.int x :: .int i :: .ref a :: rest)) rfl (rest := rest) rfl (by rw [hb]; exact hdg) t
  simp only [arrV_size] at h1
  exact h1 st
theorem vx_baldZ {D : va_G} {cl : List vw_C} {ws : va_W} {tys : List (ClassId × FieldType)} {a : Nat} (hexec : p.tables.exec = Jvm.exec) (hb : c.code = cc) (hK : va_K D cl tys s) (hP : va_P D cl ws H) (q0 t0 : Nat) {cA : ClassId} {n : Nat} {f : Nat → Int32} (ha : ws[q0]? = some (a, .inl (cA, n, .inl f))) (ht : tys[t0]? = some (cA, .byte)) {i : Int32} (hout : ¬ vp_in i n) (hdg : decode cc pc = .ok (.baload, 1))
    (k : ∀ tx : String, tx = (toString "Index " ++ toString i ++ toString " out of bounds for length " ++ toString n : String) → vx_Note p l e R s m args below meth c H locs cells slots Q (F0 m pc ls rest) "java/lang/ArrayIndexOutOfBoundsException" tx) : W p l e R s m args below meth c H locs cells slots Q (F0 m pc ls (.int i :: .ref a :: rest)) := by
  intro T hT X
  obtain ⟨t, st, q⟩ := k _ rfl T hT X
  refine ⟨t, ?_, q⟩
  have h1 := X.baloadOut hexec (by rw [hT]; exact hP q0 _ ha) ((hK.2 t0 _ ht).1 n (fun j => .int (f j))) (j := i) (by show (i < 0 ∨ (arrV _ _ _).slots.size ≤ _); rw [arrV_size]; exact Classical.byContradiction hout) (g := F0 m pc ls (.int i :: .ref a :: rest)) rfl (rest := rest) rfl (by rw [hb]; exact hdg) t
  simp only [arrV_size] at h1
  exact h1 st
theorem vx_bastZ {D : va_G} {cl : List vw_C} {ws : va_W} {tys : List (ClassId × FieldType)} {a : Nat} (hexec : p.tables.exec = Jvm.exec) (hb : c.code = cc) (hK : va_K D cl tys s) (hP : va_P D cl ws H) (q0 t0 : Nat) {cA : ClassId} {n : Nat} {f : Nat → Int32} (ha : ws[q0]? = some (a, .inl (cA, n, .inl f))) (ht : tys[t0]? = some (cA, .byte)) {i : Int32} {x : Int32} (hout : ¬ vp_in i n) (hdg : decode cc pc = .ok (.bastore, 1))
    (k : ∀ tx : String, tx = (toString "Index " ++ toString i ++ toString " out of bounds for length " ++ toString n : String) → vx_Note p l e R s m args below meth c H locs cells slots Q (F0 m pc ls rest) "java/lang/ArrayIndexOutOfBoundsException" tx) : W p l e R s m args below meth c H locs cells slots Q (F0 m pc ls (.int x :: .int i :: .ref a :: rest)) := by
  intro T hT X
  obtain ⟨t, st, q⟩ := k _ rfl T hT X
  refine ⟨t, ?_, q⟩
  have h1 := X.bastoreOut hexec (by rw [hT]; exact hP q0 _ ha) ((hK.2 t0 _ ht).1 n (fun j => .int (f j))) (j := i) (by show (i < 0 ∨ (arrV _ _ _).slots.size ≤ _); rw [arrV_size]; exact Classical.byContradiction hout) (g := F0 m pc ls (.int x :: .int i :: .ref a :: rest)) rfl (rest := rest) rfl (by rw [hb]; exact hdg) t
  simp only [arrV_size] at h1
  exact h1 st
theorem vx_zaldZ {D : va_G} {cl : List vw_C} {ws : va_W} {tys : List (ClassId × FieldType)} {a : Nat} (hexec : p.tables.exec = Jvm.exec) (hb : c.code = cc) (hK : va_K D cl tys s) (hP : va_P D cl ws H) (q0 t0 : Nat) {cA : ClassId} {n : Nat} {f : Nat → Int32} (ha : ws[q0]? = some (a, .inl (cA, n, .inl f))) (ht : tys[t0]? = some (cA, .boolean)) {i : Int32} (hout : ¬ vp_in i n) (hdg : decode cc pc = .ok (.baload, 1))
    (k : ∀ tx : String, tx = (toString "Index " ++ toString i ++ toString " out of bounds for length " ++ toString n : String) → vx_Note p l e R s m args below meth c H locs cells slots Q (F0 m pc ls rest) "java/lang/ArrayIndexOutOfBoundsException" tx) : W p l e R s m args below meth c H locs cells slots Q (F0 m pc ls (.int i :: .ref a :: rest)) := by
  intro T hT X
  obtain ⟨t, st, q⟩ := k _ rfl T hT X
  refine ⟨t, ?_, q⟩
  have h1 := X.baloadOut hexec (by rw [hT]; exact hP q0 _ ha) ((hK.2 t0 _ ht).1 n (fun j => .int (f j))) (j := i) (by show (i < 0 ∨ (arrV _ _ _).slots.size ≤ _); rw [arrV_size]; exact Classical.byContradiction hout) (g := F0 m pc ls (.int i :: .ref a :: rest)) rfl (rest := rest) rfl (by rw [hb]; exact hdg) t
  simp only [arrV_size] at h1
  exact h1 st
theorem vx_zastZ {D : va_G} {cl : List vw_C} {ws : va_W} {tys : List (ClassId × FieldType)} {a : Nat} (hexec : p.tables.exec = Jvm.exec) (hb : c.code = cc) (hK : va_K D cl tys s) (hP : va_P D cl ws H) (q0 t0 : Nat) {cA : ClassId} {n : Nat} {f : Nat → Int32} (ha : ws[q0]? = some (a, .inl (cA, n, .inl f))) (ht : tys[t0]? = some (cA, .boolean)) {i : Int32} {x : Int32} (hout : ¬ vp_in i n) (hdg : decode cc pc = .ok (.bastore, 1))
    (k : ∀ tx : String, tx = (toString "Index " ++ toString i ++ toString " out of bounds for length " ++ toString n : String) → vx_Note p l e R s m args below meth c H locs cells slots Q (F0 m pc ls rest) "java/lang/ArrayIndexOutOfBoundsException" tx) : W p l e R s m args below meth c H locs cells slots Q (F0 m pc ls (.int x :: .int i :: .ref a :: rest)) := by
  intro T hT X
  obtain ⟨t, st, q⟩ := k _ rfl T hT X
  refine ⟨t, ?_, q⟩
  have h1 := X.bastoreOut hexec (by rw [hT]; exact hP q0 _ ha) ((hK.2 t0 _ ht).1 n (fun j => .int (f j))) (j := i) (by show (i < 0 ∨ (arrV _ _ _).slots.size ≤ _); rw [arrV_size]; exact Classical.byContradiction hout) (g := F0 m pc ls (.int x :: .int i :: .ref a :: rest)) rfl (rest := rest) rfl (by rw [hb]; exact hdg) t
  simp only [arrV_size] at h1
  exact h1 st
theorem vx_caldZ {D : va_G} {cl : List vw_C} {ws : va_W} {tys : List (ClassId × FieldType)} {a : Nat} (hexec : p.tables.exec = Jvm.exec) (hb : c.code = cc) (hK : va_K D cl tys s) (hP : va_P D cl ws H) (q0 t0 : Nat) {cA : ClassId} {n : Nat} {f : Nat → Int32} (ha : ws[q0]? = some (a, .inl (cA, n, .inl f))) (ht : tys[t0]? = some (cA, .char)) {i : Int32} (hout : ¬ vp_in i n) (hdg : decode cc pc = .ok (.caload, 1))
    (k : ∀ tx : String, tx = (toString "Index " ++ toString i ++ toString " out of bounds for length " ++ toString n : String) → vx_Note p l e R s m args below meth c H locs cells slots Q (F0 m pc ls rest) "java/lang/ArrayIndexOutOfBoundsException" tx) : W p l e R s m args below meth c H locs cells slots Q (F0 m pc ls (.int i :: .ref a :: rest)) := by
  intro T hT X
  obtain ⟨t, st, q⟩ := k _ rfl T hT X
  refine ⟨t, ?_, q⟩
  have h1 := X.caloadOut hexec (by rw [hT]; exact hP q0 _ ha) ((hK.2 t0 _ ht).1 n (fun j => .int (f j))) (j := i) (by show (i < 0 ∨ (arrV _ _ _).slots.size ≤ _); rw [arrV_size]; exact Classical.byContradiction hout) (g := F0 m pc ls (.int i :: .ref a :: rest)) rfl (rest := rest) rfl (by rw [hb]; exact hdg) t
  simp only [arrV_size] at h1
  exact h1 st
theorem vx_castZ {D : va_G} {cl : List vw_C} {ws : va_W} {tys : List (ClassId × FieldType)} {a : Nat} (hexec : p.tables.exec = Jvm.exec) (hb : c.code = cc) (hK : va_K D cl tys s) (hP : va_P D cl ws H) (q0 t0 : Nat) {cA : ClassId} {n : Nat} {f : Nat → Int32} (ha : ws[q0]? = some (a, .inl (cA, n, .inl f))) (ht : tys[t0]? = some (cA, .char)) {i : Int32} {x : Int32} (hout : ¬ vp_in i n) (hdg : decode cc pc = .ok (.castore, 1))
    (k : ∀ tx : String, tx = (toString "Index " ++ toString i ++ toString " out of bounds for length " ++ toString n : String) → vx_Note p l e R s m args below meth c H locs cells slots Q (F0 m pc ls rest) "java/lang/ArrayIndexOutOfBoundsException" tx) : W p l e R s m args below meth c H locs cells slots Q (F0 m pc ls (.int x :: .int i :: .ref a :: rest)) := by
  intro T hT X
  obtain ⟨t, st, q⟩ := k _ rfl T hT X
  refine ⟨t, ?_, q⟩
  have h1 := X.castoreOut hexec (by rw [hT]; exact hP q0 _ ha) ((hK.2 t0 _ ht).1 n (fun j => .int (f j))) (j := i) (by show (i < 0 ∨ (arrV _ _ _).slots.size ≤ _); rw [arrV_size]; exact Classical.byContradiction hout) (g := F0 m pc ls (.int x :: .int i :: .ref a :: rest)) rfl (rest := rest) rfl (by rw [hb]; exact hdg) t
  simp only [arrV_size] at h1
  exact h1 st
theorem vx_saldZ {D : va_G} {cl : List vw_C} {ws : va_W} {tys : List (ClassId × FieldType)} {a : Nat} (hexec : p.tables.exec = Jvm.exec) (hb : c.code = cc) (hK : va_K D cl tys s) (hP : va_P D cl ws H) (q0 t0 : Nat) {cA : ClassId} {n : Nat} {f : Nat → Int32} (ha : ws[q0]? = some (a, .inl (cA, n, .inl f))) (ht : tys[t0]? = some (cA, .short)) {i : Int32} (hout : ¬ vp_in i n) (hdg : decode cc pc = .ok (.saload, 1))
    (k : ∀ tx : String, tx = (toString "Index " ++ toString i ++ toString " out of bounds for length " ++ toString n : String) → vx_Note p l e R s m args below meth c H locs cells slots Q (F0 m pc ls rest) "java/lang/ArrayIndexOutOfBoundsException" tx) : W p l e R s m args below meth c H locs cells slots Q (F0 m pc ls (.int i :: .ref a :: rest)) := by
  intro T hT X
  obtain ⟨t, st, q⟩ := k _ rfl T hT X
  refine ⟨t, ?_, q⟩
  have h1 := X.saloadOut hexec (by rw [hT]; exact hP q0 _ ha) ((hK.2 t0 _ ht).1 n (fun j => .int (f j))) (j := i) (by show (i < 0 ∨ (arrV _ _ _).slots.size ≤ _); rw [arrV_size]; exact Classical.byContradiction hout) (g := F0 m pc ls (.int i :: .ref a :: rest)) rfl (rest := rest) rfl (by rw [hb]; exact hdg) t
  simp only [arrV_size] at h1
  exact h1 st
theorem vx_sastZ {D : va_G} {cl : List vw_C} {ws : va_W} {tys : List (ClassId × FieldType)} {a : Nat} (hexec : p.tables.exec = Jvm.exec) (hb : c.code = cc) (hK : va_K D cl tys s) (hP : va_P D cl ws H) (q0 t0 : Nat) {cA : ClassId} {n : Nat} {f : Nat → Int32} (ha : ws[q0]? = some (a, .inl (cA, n, .inl f))) (ht : tys[t0]? = some (cA, .short)) {i : Int32} {x : Int32} (hout : ¬ vp_in i n) (hdg : decode cc pc = .ok (.sastore, 1))
    (k : ∀ tx : String, tx = (toString "Index " ++ toString i ++ toString " out of bounds for length " ++ toString n : String) → vx_Note p l e R s m args below meth c H locs cells slots Q (F0 m pc ls rest) "java/lang/ArrayIndexOutOfBoundsException" tx) : W p l e R s m args below meth c H locs cells slots Q (F0 m pc ls (.int x :: .int i :: .ref a :: rest)) := by
  intro T hT X
  obtain ⟨t, st, q⟩ := k _ rfl T hT X
  refine ⟨t, ?_, q⟩
  have h1 := X.sastoreOut hexec (by rw [hT]; exact hP q0 _ ha) ((hK.2 t0 _ ht).1 n (fun j => .int (f j))) (j := i) (by show (i < 0 ∨ (arrV _ _ _).slots.size ≤ _); rw [arrV_size]; exact Classical.byContradiction hout) (g := F0 m pc ls (.int x :: .int i :: .ref a :: rest)) rfl (rest := rest) rfl (by rw [hb]; exact hdg) t
  simp only [arrV_size] at h1
  exact h1 st
theorem vx_laldZ {D : va_G} {cl : List vw_C} {ws : va_W} {tys : List (ClassId × FieldType)} {a : Nat} (hexec : p.tables.exec = Jvm.exec) (hb : c.code = cc) (hK : va_K D cl tys s) (hP : va_P D cl ws H) (q0 t0 : Nat) {cA : ClassId} {n : Nat} {f : Nat → Int64} (ha : ws[q0]? = some (a, .inl (cA, n, .inr (.inl f)))) (ht : tys[t0]? = some (cA, .long)) {i : Int32} (hout : ¬ vp_in i n) (hdg : decode cc pc = .ok (.laload, 1))
    (k : ∀ tx : String, tx = (toString "Index " ++ toString i ++ toString " out of bounds for length " ++ toString n : String) → vx_Note p l e R s m args below meth c H locs cells slots Q (F0 m pc ls rest) "java/lang/ArrayIndexOutOfBoundsException" tx) : W p l e R s m args below meth c H locs cells slots Q (F0 m pc ls (.int i :: .ref a :: rest)) := by
  intro T hT X
  obtain ⟨t, st, q⟩ := k _ rfl T hT X
  refine ⟨t, ?_, q⟩
  have h1 := X.laloadOut hexec (by rw [hT]; exact hP q0 _ ha) ((hK.2 t0 _ ht).1 n (fun j => .long (f j))) (j := i) (by show (i < 0 ∨ (arrV _ _ _).slots.size ≤ _); rw [arrV_size]; exact Classical.byContradiction hout) (g := F0 m pc ls (.int i :: .ref a :: rest)) rfl (rest := rest) rfl (by rw [hb]; exact hdg) t
  simp only [arrV_size] at h1
  exact h1 st
theorem vx_lastZ {D : va_G} {cl : List vw_C} {ws : va_W} {tys : List (ClassId × FieldType)} {a : Nat} (hexec : p.tables.exec = Jvm.exec) (hb : c.code = cc) (hK : va_K D cl tys s) (hP : va_P D cl ws H) (q0 t0 : Nat) {cA : ClassId} {n : Nat} {f : Nat → Int64} (ha : ws[q0]? = some (a, .inl (cA, n, .inr (.inl f)))) (ht : tys[t0]? = some (cA, .long)) {i : Int32} {x : Int64} (hout : ¬ vp_in i n) (hdg : decode cc pc = .ok (.lastore, 1))
    (k : ∀ tx : String, tx = (toString "Index " ++ toString i ++ toString " out of bounds for length " ++ toString n : String) → vx_Note p l e R s m args below meth c H locs cells slots Q (F0 m pc ls rest) "java/lang/ArrayIndexOutOfBoundsException" tx) : W p l e R s m args below meth c H locs cells slots Q (F0 m pc ls (.long x :: .int i :: .ref a :: rest)) := by
  intro T hT X
  obtain ⟨t, st, q⟩ := k _ rfl T hT X
  refine ⟨t, ?_, q⟩
  have h1 := X.lastoreOut hexec (by rw [hT]; exact hP q0 _ ha) ((hK.2 t0 _ ht).1 n (fun j => .long (f j))) (j := i) (by show (i < 0 ∨ (arrV _ _ _).slots.size ≤ _); rw [arrV_size]; exact Classical.byContradiction hout) (g := F0 m pc ls (.long x :: .int i :: .ref a :: rest)) rfl (rest := rest) rfl (by rw [hb]; exact hdg) t
  simp only [arrV_size] at h1
  exact h1 st
theorem vx_faldZ {D : va_G} {cl : List vw_C} {ws : va_W} {tys : List (ClassId × FieldType)} {a : Nat} (hexec : p.tables.exec = Jvm.exec) (hb : c.code = cc) (hK : va_K D cl tys s) (hP : va_P D cl ws H) (q0 t0 : Nat) {cA : ClassId} {n : Nat} {f : Nat → UInt32} (ha : ws[q0]? = some (a, .inl (cA, n, .inr (.inr (.inl f))))) (ht : tys[t0]? = some (cA, .float)) {i : Int32} (hout : ¬ vp_in i n) (hdg : decode cc pc = .ok (.faload, 1))
    (k : ∀ tx : String, tx = (toString "Index " ++ toString i ++ toString " out of bounds for length " ++ toString n : String) → vx_Note p l e R s m args below meth c H locs cells slots Q (F0 m pc ls rest) "java/lang/ArrayIndexOutOfBoundsException" tx) : W p l e R s m args below meth c H locs cells slots Q (F0 m pc ls (.int i :: .ref a :: rest)) := by
  intro T hT X
  obtain ⟨t, st, q⟩ := k _ rfl T hT X
  refine ⟨t, ?_, q⟩
  have h1 := X.faloadOut hexec (by rw [hT]; exact hP q0 _ ha) ((hK.2 t0 _ ht).1 n (fun j => .float (f j))) (j := i) (by show (i < 0 ∨ (arrV _ _ _).slots.size ≤ _); rw [arrV_size]; exact Classical.byContradiction hout) (g := F0 m pc ls (.int i :: .ref a :: rest)) rfl (rest := rest) rfl (by rw [hb]; exact hdg) t
  simp only [arrV_size] at h1
  exact h1 st
theorem vx_fastZ {D : va_G} {cl : List vw_C} {ws : va_W} {tys : List (ClassId × FieldType)} {a : Nat} (hexec : p.tables.exec = Jvm.exec) (hb : c.code = cc) (hK : va_K D cl tys s) (hP : va_P D cl ws H) (q0 t0 : Nat) {cA : ClassId} {n : Nat} {f : Nat → UInt32} (ha : ws[q0]? = some (a, .inl (cA, n, .inr (.inr (.inl f))))) (ht : tys[t0]? = some (cA, .float)) {i : Int32} {x : UInt32} (hout : ¬ vp_in i n) (hdg : decode cc pc = .ok (.fastore, 1))
    (k : ∀ tx : String, tx = (toString "Index " ++ toString i ++ toString " out of bounds for length " ++ toString n : String) → vx_Note p l e R s m args below meth c H locs cells slots Q (F0 m pc ls rest) "java/lang/ArrayIndexOutOfBoundsException" tx) : W p l e R s m args below meth c H locs cells slots Q (F0 m pc ls (.float x :: .int i :: .ref a :: rest)) := by
  intro T hT X
  obtain ⟨t, st, q⟩ := k _ rfl T hT X
  refine ⟨t, ?_, q⟩
  have h1 := X.fastoreOut hexec (by rw [hT]; exact hP q0 _ ha) ((hK.2 t0 _ ht).1 n (fun j => .float (f j))) (j := i) (by show (i < 0 ∨ (arrV _ _ _).slots.size ≤ _); rw [arrV_size]; exact Classical.byContradiction hout) (g := F0 m pc ls (.float x :: .int i :: .ref a :: rest)) rfl (rest := rest) rfl (by rw [hb]; exact hdg) t
  simp only [arrV_size] at h1
  exact h1 st
theorem vx_daldZ {D : va_G} {cl : List vw_C} {ws : va_W} {tys : List (ClassId × FieldType)} {a : Nat} (hexec : p.tables.exec = Jvm.exec) (hb : c.code = cc) (hK : va_K D cl tys s) (hP : va_P D cl ws H) (q0 t0 : Nat) {cA : ClassId} {n : Nat} {f : Nat → UInt64} (ha : ws[q0]? = some (a, .inl (cA, n, .inr (.inr (.inr (.inl f)))))) (ht : tys[t0]? = some (cA, .double)) {i : Int32} (hout : ¬ vp_in i n) (hdg : decode cc pc = .ok (.daload, 1))
    (k : ∀ tx : String, tx = (toString "Index " ++ toString i ++ toString " out of bounds for length " ++ toString n : String) → vx_Note p l e R s m args below meth c H locs cells slots Q (F0 m pc ls rest) "java/lang/ArrayIndexOutOfBoundsException" tx) : W p l e R s m args below meth c H locs cells slots Q (F0 m pc ls (.int i :: .ref a :: rest)) := by
  intro T hT X
  obtain ⟨t, st, q⟩ := k _ rfl T hT X
  refine ⟨t, ?_, q⟩
  have h1 := X.daloadOut hexec (by rw [hT]; exact hP q0 _ ha) ((hK.2 t0 _ ht).1 n (fun j => .double (f j))) (j := i) (by show (i < 0 ∨ (arrV _ _ _).slots.size ≤ _); rw [arrV_size]; exact Classical.byContradiction hout) (g := F0 m pc ls (.int i :: .ref a :: rest)) rfl (rest := rest) rfl (by rw [hb]; exact hdg) t
  simp only [arrV_size] at h1
  exact h1 st
theorem vx_dastZ {D : va_G} {cl : List vw_C} {ws : va_W} {tys : List (ClassId × FieldType)} {a : Nat} (hexec : p.tables.exec = Jvm.exec) (hb : c.code = cc) (hK : va_K D cl tys s) (hP : va_P D cl ws H) (q0 t0 : Nat) {cA : ClassId} {n : Nat} {f : Nat → UInt64} (ha : ws[q0]? = some (a, .inl (cA, n, .inr (.inr (.inr (.inl f)))))) (ht : tys[t0]? = some (cA, .double)) {i : Int32} {x : UInt64} (hout : ¬ vp_in i n) (hdg : decode cc pc = .ok (.dastore, 1))
    (k : ∀ tx : String, tx = (toString "Index " ++ toString i ++ toString " out of bounds for length " ++ toString n : String) → vx_Note p l e R s m args below meth c H locs cells slots Q (F0 m pc ls rest) "java/lang/ArrayIndexOutOfBoundsException" tx) : W p l e R s m args below meth c H locs cells slots Q (F0 m pc ls (.double x :: .int i :: .ref a :: rest)) := by
  intro T hT X
  obtain ⟨t, st, q⟩ := k _ rfl T hT X
  refine ⟨t, ?_, q⟩
  have h1 := X.dastoreOut hexec (by rw [hT]; exact hP q0 _ ha) ((hK.2 t0 _ ht).1 n (fun j => .double (f j))) (j := i) (by show (i < 0 ∨ (arrV _ _ _).slots.size ≤ _); rw [arrV_size]; exact Classical.byContradiction hout) (g := F0 m pc ls (.double x :: .int i :: .ref a :: rest)) rfl (rest := rest) rfl (by rw [hb]; exact hdg) t
  simp only [arrV_size] at h1
  exact h1 st
theorem vx_arraylengthN (hexec : p.tables.exec = Jvm.exec) (hb : c.code = cc) (hdg : decode cc pc = .ok (.arraylength, 1)) (k : vx_NoteN p l e R s m args below meth c H locs cells slots Q (F0 m pc ls rest)) : W p l e R s m args below meth c H locs cells slots Q (F0 m pc ls (.null :: rest)) := by
  intro T hT X
  obtain ⟨t, st, q⟩ := k T hT X
  exact ⟨t, X.arraylengthNull hexec (g := F0 m pc ls (.null :: rest)) rfl (rest := rest) rfl (by rw [hb]; exact hdg) t st, q⟩
theorem vx_ialoadN (hexec : p.tables.exec = Jvm.exec) (hb : c.code = cc) {i : Int32} (hdg : decode cc pc = .ok (.iaload, 1)) (k : vx_NoteN p l e R s m args below meth c H locs cells slots Q (F0 m pc ls rest)) : W p l e R s m args below meth c H locs cells slots Q (F0 m pc ls (.int i :: .null :: rest)) := by
  intro T hT X
  obtain ⟨t, st, q⟩ := k T hT X
  exact ⟨t, X.ialoadNull hexec (g := F0 m pc ls (.int i :: .null :: rest)) rfl (rest := rest) rfl (by rw [hb]; exact hdg) t st, q⟩
theorem vx_laloadN (hexec : p.tables.exec = Jvm.exec) (hb : c.code = cc) {i : Int32} (hdg : decode cc pc = .ok (.laload, 1)) (k : vx_NoteN p l e R s m args below meth c H locs cells slots Q (F0 m pc ls rest)) : W p l e R s m args below meth c H locs cells slots Q (F0 m pc ls (.int i :: .null :: rest)) := by
  intro T hT X
  obtain ⟨t, st, q⟩ := k T hT X
  exact ⟨t, X.laloadNull hexec (g := F0 m pc ls (.int i :: .null :: rest)) rfl (rest := rest) rfl (by rw [hb]; exact hdg) t st, q⟩
theorem vx_faloadN (hexec : p.tables.exec = Jvm.exec) (hb : c.code = cc) {i : Int32} (hdg : decode cc pc = .ok (.faload, 1)) (k : vx_NoteN p l e R s m args below meth c H locs cells slots Q (F0 m pc ls rest)) : W p l e R s m args below meth c H locs cells slots Q (F0 m pc ls (.int i :: .null :: rest)) := by
  intro T hT X
  obtain ⟨t, st, q⟩ := k T hT X
  exact ⟨t, X.faloadNull hexec (g := F0 m pc ls (.int i :: .null :: rest)) rfl (rest := rest) rfl (by rw [hb]; exact hdg) t st, q⟩
theorem vx_daloadN (hexec : p.tables.exec = Jvm.exec) (hb : c.code = cc) {i : Int32} (hdg : decode cc pc = .ok (.daload, 1)) (k : vx_NoteN p l e R s m args below meth c H locs cells slots Q (F0 m pc ls rest)) : W p l e R s m args below meth c H locs cells slots Q (F0 m pc ls (.int i :: .null :: rest)) := by
  intro T hT X
  obtain ⟨t, st, q⟩ := k T hT X
  exact ⟨t, X.daloadNull hexec (g := F0 m pc ls (.int i :: .null :: rest)) rfl (rest := rest) rfl (by rw [hb]; exact hdg) t st, q⟩
theorem vx_aaloadN (hexec : p.tables.exec = Jvm.exec) (hb : c.code = cc) {i : Int32} (hdg : decode cc pc = .ok (.aaload, 1)) (k : vx_NoteN p l e R s m args below meth c H locs cells slots Q (F0 m pc ls rest)) : W p l e R s m args below meth c H locs cells slots Q (F0 m pc ls (.int i :: .null :: rest)) := by
  intro T hT X
  obtain ⟨t, st, q⟩ := k T hT X
  exact ⟨t, X.aaloadNull hexec (g := F0 m pc ls (.int i :: .null :: rest)) rfl (rest := rest) rfl (by rw [hb]; exact hdg) t st, q⟩
theorem vx_baloadN (hexec : p.tables.exec = Jvm.exec) (hb : c.code = cc) {i : Int32} (hdg : decode cc pc = .ok (.baload, 1)) (k : vx_NoteN p l e R s m args below meth c H locs cells slots Q (F0 m pc ls rest)) : W p l e R s m args below meth c H locs cells slots Q (F0 m pc ls (.int i :: .null :: rest)) := by
  intro T hT X
  obtain ⟨t, st, q⟩ := k T hT X
  exact ⟨t, X.baloadNull hexec (g := F0 m pc ls (.int i :: .null :: rest)) rfl (rest := rest) rfl (by rw [hb]; exact hdg) t st, q⟩
theorem vx_caloadN (hexec : p.tables.exec = Jvm.exec) (hb : c.code = cc) {i : Int32} (hdg : decode cc pc = .ok (.caload, 1)) (k : vx_NoteN p l e R s m args below meth c H locs cells slots Q (F0 m pc ls rest)) : W p l e R s m args below meth c H locs cells slots Q (F0 m pc ls (.int i :: .null :: rest)) := by
  intro T hT X
  obtain ⟨t, st, q⟩ := k T hT X
  exact ⟨t, X.caloadNull hexec (g := F0 m pc ls (.int i :: .null :: rest)) rfl (rest := rest) rfl (by rw [hb]; exact hdg) t st, q⟩
theorem vx_saloadN (hexec : p.tables.exec = Jvm.exec) (hb : c.code = cc) {i : Int32} (hdg : decode cc pc = .ok (.saload, 1)) (k : vx_NoteN p l e R s m args below meth c H locs cells slots Q (F0 m pc ls rest)) : W p l e R s m args below meth c H locs cells slots Q (F0 m pc ls (.int i :: .null :: rest)) := by
  intro T hT X
  obtain ⟨t, st, q⟩ := k T hT X
  exact ⟨t, X.saloadNull hexec (g := F0 m pc ls (.int i :: .null :: rest)) rfl (rest := rest) rfl (by rw [hb]; exact hdg) t st, q⟩
theorem vx_iastoreN (hexec : p.tables.exec = Jvm.exec) (hb : c.code = cc) {x : Int32} {i : Int32} (hdg : decode cc pc = .ok (.iastore, 1)) (k : vx_NoteN p l e R s m args below meth c H locs cells slots Q (F0 m pc ls rest)) : W p l e R s m args below meth c H locs cells slots Q (F0 m pc ls (.int x :: .int i :: .null :: rest)) := by
  intro T hT X
  obtain ⟨t, st, q⟩ := k T hT X
  exact ⟨t, X.iastoreNull hexec (g := F0 m pc ls (.int x :: .int i :: .null :: rest)) rfl (rest := rest) rfl (by rw [hb]; exact hdg) t st, q⟩
theorem vx_lastoreN (hexec : p.tables.exec = Jvm.exec) (hb : c.code = cc) {x : Int64} {i : Int32} (hdg : decode cc pc = .ok (.lastore, 1)) (k : vx_NoteN p l e R s m args below meth c H locs cells slots Q (F0 m pc ls rest)) : W p l e R s m args below meth c H locs cells slots Q (F0 m pc ls (.long x :: .int i :: .null :: rest)) := by
  intro T hT X
  obtain ⟨t, st, q⟩ := k T hT X
  exact ⟨t, X.lastoreNull hexec (g := F0 m pc ls (.long x :: .int i :: .null :: rest)) rfl (rest := rest) rfl (by rw [hb]; exact hdg) t st, q⟩
theorem vx_fastoreN (hexec : p.tables.exec = Jvm.exec) (hb : c.code = cc) {x : UInt32} {i : Int32} (hdg : decode cc pc = .ok (.fastore, 1)) (k : vx_NoteN p l e R s m args below meth c H locs cells slots Q (F0 m pc ls rest)) : W p l e R s m args below meth c H locs cells slots Q (F0 m pc ls (.float x :: .int i :: .null :: rest)) := by
  intro T hT X
  obtain ⟨t, st, q⟩ := k T hT X
  exact ⟨t, X.fastoreNull hexec (g := F0 m pc ls (.float x :: .int i :: .null :: rest)) rfl (rest := rest) rfl (by rw [hb]; exact hdg) t st, q⟩
theorem vx_dastoreN (hexec : p.tables.exec = Jvm.exec) (hb : c.code = cc) {x : UInt64} {i : Int32} (hdg : decode cc pc = .ok (.dastore, 1)) (k : vx_NoteN p l e R s m args below meth c H locs cells slots Q (F0 m pc ls rest)) : W p l e R s m args below meth c H locs cells slots Q (F0 m pc ls (.double x :: .int i :: .null :: rest)) := by
  intro T hT X
  obtain ⟨t, st, q⟩ := k T hT X
  exact ⟨t, X.dastoreNull hexec (g := F0 m pc ls (.double x :: .int i :: .null :: rest)) rfl (rest := rest) rfl (by rw [hb]; exact hdg) t st, q⟩
theorem vx_bastoreN (hexec : p.tables.exec = Jvm.exec) (hb : c.code = cc) {x : Int32} {i : Int32} (hdg : decode cc pc = .ok (.bastore, 1)) (k : vx_NoteN p l e R s m args below meth c H locs cells slots Q (F0 m pc ls rest)) : W p l e R s m args below meth c H locs cells slots Q (F0 m pc ls (.int x :: .int i :: .null :: rest)) := by
  intro T hT X
  obtain ⟨t, st, q⟩ := k T hT X
  exact ⟨t, X.bastoreNull hexec (g := F0 m pc ls (.int x :: .int i :: .null :: rest)) rfl (rest := rest) rfl (by rw [hb]; exact hdg) t st, q⟩
theorem vx_castoreN (hexec : p.tables.exec = Jvm.exec) (hb : c.code = cc) {x : Int32} {i : Int32} (hdg : decode cc pc = .ok (.castore, 1)) (k : vx_NoteN p l e R s m args below meth c H locs cells slots Q (F0 m pc ls rest)) : W p l e R s m args below meth c H locs cells slots Q (F0 m pc ls (.int x :: .int i :: .null :: rest)) := by
  intro T hT X
  obtain ⟨t, st, q⟩ := k T hT X
  exact ⟨t, X.castoreNull hexec (g := F0 m pc ls (.int x :: .int i :: .null :: rest)) rfl (rest := rest) rfl (by rw [hb]; exact hdg) t st, q⟩
theorem vx_sastoreN (hexec : p.tables.exec = Jvm.exec) (hb : c.code = cc) {x : Int32} {i : Int32} (hdg : decode cc pc = .ok (.sastore, 1)) (k : vx_NoteN p l e R s m args below meth c H locs cells slots Q (F0 m pc ls rest)) : W p l e R s m args below meth c H locs cells slots Q (F0 m pc ls (.int x :: .int i :: .null :: rest)) := by
  intro T hT X
  obtain ⟨t, st, q⟩ := k T hT X
  exact ⟨t, X.sastoreNull hexec (g := F0 m pc ls (.int x :: .int i :: .null :: rest)) rfl (rest := rest) rfl (by rw [hb]; exact hdg) t st, q⟩
theorem vx_invokeN {own C : String} {index maxL : Nat} {y : MethodName} {bytes : ByteArray} {ret : Option FieldType} (hexec : p.tables.exec = Jvm.exec) (hb : c.code = cc) (hown : s.vm.findClass own = some m.cls) (hlink : (Cond.methodLink own index y).before args s = true) (hinst : (Cond.instanceMethod y).before args s = true) (hcode : (Cond.code y bytes maxL ret).before args s = true) (hsel : (Cond.selects C y y).before args s = true)
    (hx : y.cls ≠ "java/lang/invoke/MethodHandle" ∧ y.cls ≠ "java/lang/invoke/VarHandle") {As : List Value} (hlen : (parseMethodDescriptor y.desc).map (fun d => d.parameters.length) = some As.length) (hdg : decode cc pc = .ok (.invokevirtual index, 3))
    (k : vx_NoteN p l e R s m args below meth c H locs cells slots Q (F0 m pc ls rest)) {st0 : List Value} (hst : st0 = As.reverse ++ .null :: rest) : W p l e R s m args below meth c H locs cells slots Q (F0 m pc ls st0) := by
  intro T hT X
  obtain ⟨r0, r, hn, hrm, hstR, hsigR⟩ := va_Decl.of hinst hcode
  obtain ⟨c2, r2, m2, q1, q2, q3, q4, kP, hkP, hkPi⟩ := Cond.selects_spec hsel
  cases hn.symm.trans q3
  have hl9 : As.length = r.sig.parameters.length := by
    rw [hsigR] at hlen
    exact (Option.some.inj hlen).symm
  obtain ⟨vm', X1, st1⟩ := X.invokevirtualNull hexec hown hlink hn hrm hstR hkP hkPi hx (g := F0 m pc ls st0) rfl (argsL := As) (rest := rest) hl9 hst (by rw [hb]; exact hdg)
  obtain ⟨t, st, q⟩ := k (T.setVm vm') hT X1
  exact ⟨t, st1 t st, q⟩
theorem vx_newarrayZ {atype : ArrayType} (hexec : p.tables.exec = Jvm.exec) (hb : c.code = cc) {n : Int32} (h0 : n < 0) (hdg : decode cc pc = .ok (.newarray atype, 2)) (k : ∀ tx : String, tx = toString n → vx_Note p l e R s m args below meth c H locs cells slots Q (F0 m pc ls rest) "java/lang/NegativeArraySizeException" tx) : W p l e R s m args below meth c H locs cells slots Q (F0 m pc ls (.int n :: rest)) := by
  intro T hT X
  obtain ⟨t, st, q⟩ := k _ rfl T hT X
  exact ⟨t, X.newarrayNegative hexec (g := F0 m pc ls (.int n :: rest)) rfl h0 (rest := rest) rfl (by rw [hb]; exact hdg) t st, q⟩
end
end VXM
/-! ===== END ===== -/
end
section
/-! ===== BEGIN a constructor that throws (launches without stack traces) ===== -/
section VXIA
variable {p : Program} {l : Launch} {e : Env} {R : Room} {s : State} {m : MethodId} {args : Array Value} {below : List Frame} {meth : Method} {c : Code} {T : State} {locs : List Loc} {cells slots : Nat}
theorem vx_callI (X : Stand p l e R s m args below meth c T locs cells slots) (hexec : p.tables.exec = Jvm.exec) {own : String} {index : Nat} {y : MethodName} {bytes : ByteArray} {maxL : Nat}
    (hown : s.vm.findClass own = some m.cls) (hy1 : y.name = "<init>") (hlink : (Cond.methodLink own index y).before args s = true) (hinst : (Cond.instanceMethod y).before args s = true)
    (hcode : (Cond.code y bytes maxL none).before args s = true) (hy : y.cls ≠ "java/lang/invoke/MethodHandle" ∧ y.cls ≠ "java/lang/invoke/VarHandle")
    {W9 : Nat} {Pre : Pt → Array Value → Prop} {Post : Pt → Array Value → Option Value → Pt → Prop} {PostX : Pt → Array Value → Addr → Pt → Prop} (hK : vx_Back l R p e below s args y 3 W9 Pre Post PostX)
    {g : JFrame} (hg : g.method = m) (hsize : g.locals.size = c.maxLocals) {a : Addr} {argsL rest : List Value} (hlen : ∀ sig, parseMethodDescriptor y.desc = some sig → argsL.length = sig.parameters.length)
    (hstack : g.stack = argsL.reverse ++ .ref a :: rest) (hW : 2 * g.monitorRoom + (rest.map fun v => v.category).sum ≤ W9) (hdg : decode c.code g.pc = .ok (.invokespecial index, 3))
    (hpre : ∀ vm₁, s.WarmedH vm₁ → Pre ⟨T.setVm vm₁, locs, cells, slots⟩ (Value.ref a :: argsL).toArray) :
    (∃ (v : Option Value) (vm₁ : Vm) (B : Pt), s.WarmedH vm₁ ∧ Stand p l e R s m args below meth c B.U B.locs B.cells B.slots ∧ Post ⟨T.setVm vm₁, locs, cells, slots⟩ (Value.ref a :: argsL).toArray v B ∧
      ∀ target, Steps p.tables e below (B.U.setTop { g with pc := g.pc + 3, stack := v.toList ++ rest }) target → Steps p.tables e below (T.setTop g) target) ∨
    (∃ (q : Addr) (vm₁ : Vm) (B : Pt), s.WarmedH vm₁ ∧ Stand p l e R s m args below meth c B.U B.locs B.cells B.slots ∧ PostX ⟨T.setVm vm₁, locs, cells, slots⟩ (Value.ref a :: argsL).toArray q B ∧
      Steps p.tables e below (T.setTop g) ((B.U.setTop { g with stack := rest }).pushFrame (.throwing q))) := by
  subst hg
  have hpl : e.platform.magicAccessors = ({} : Platform).magicAccessors := by rw [X.admits.platform]
  obtain ⟨mk, methM, cM, kP, vm₁, hnamed, hmethM, hcodeM, -, hlocalsM, -, hkP, -, hW₁, hstep₁⟩ := Steps.initColdArgs (e := e) X.here hexec X.warmed hpl hown hy1 hy hlink hinst hcode (f := g) rfl hlen hstack hdg
  have X₁ := X.noted hW₁
  rcases hK g.method meth c ⟨T.setVm vm₁, locs, cells, slots⟩ { g with stack := rest } (.invokespecial index) mk (Value.ref a :: argsL).toArray X₁ rfl hsize hdg hW (X₁.named hnamed) (hpre vm₁ X₁.warmed) with ⟨v, B, X', hpost, hsteps⟩ | ⟨q, B, X', hpost, hsteps⟩
  · exact Or.inl ⟨v, vm₁, B, X₁.warmed, X', hpost, fun target h => hstep₁ _ fun acts => by rw [doInvoke_state]; exact hsteps.trans h⟩
  · exact Or.inr ⟨q, vm₁, B, X₁.warmed, X', hpost, hstep₁ _ fun acts => by rw [doInvoke_state]; exact hsteps⟩
end VXIA
section VXIB
variable {p : Program} {l : Launch} {e : Env} {R : Room} {s : State} {m : MethodId} {args : Array Value} {below : List Frame} {meth : Method} {c : Code} {H : Heap} {locs : List Loc} {cells slots : Nat}
variable {y : MethodName} {bytes cc : ByteArray} {maxL nL mc ms n index : Nat} {ret : Option FieldType} {ws : List Cond} {rm : Room} {Pc : Array Value → State → Prop} {Qc : Array Value → State → Outcome → State → Prop} {XC : String → State → State → Prop} {free : Addr → Prop} {Ts : List Cond} {own C : String} {b : Addr} {As rest : List Value} {g : JFrame}
theorem vx_runI (S : CallFix p m c cc nL s args Ts own) (hM : vx_Met l y ws rm Pc Qc XC mc ms free) (cw : CallB R s args own index y bytes maxL none ws rm mc ms n ∧ y.name = "<init>" ∧ (Cond.instanceMethod y).before args s = true) (hp : PreS s H Pc (.ref b :: As))
    (hg : g.method = m) (hn : As.length = n) (hsize : g.locals.size = nL) (hstack : g.stack = As.reverse ++ .ref b :: rest) (hW : 2 * g.monitorRoom + (rest.map fun v => v.category).sum ≤ 8) (hdg : decode cc g.pc = .ok (.invokespecial index, 3)) (hf : cells + mc ≤ R.cells ∧ slots + ms ≤ R.slots) :
    vx_Run p l e R s m args below meth c H locs cells slots mc ms g rest (Qc (Value.ref b :: As).toArray) XC free := by
  have hK : vx_Back l R p e below s args y 3 8 (PreOf R mc ms Pc) (PostOf Qc mc ms free) (vx_Post XC mc ms free) := vx_callBack cw.1 hM hp.1
  obtain ⟨⟨-, -, -, -, -, -, hcode, -, hy, hlen, hl⟩, hy1, hin⟩ := cw
  obtain ⟨hx, hb, hml, ho, -⟩ := S
  have hPc := hp.2
  intro T hT X
  rcases vx_callI X hx (bytes := bytes) (maxL := maxL) ho hy1 hl hin hcode hy hK hg (hsize.trans hml.symm) (a := b) (argsL := As) (rest := rest) (fun sig h => hn.trans (hlen sig h)) hstack hW (by rw [hb]; exact hdg)
    (fun vm₁ hW₁ => ⟨hf.1, hf.2, hPc (T.setVm vm₁) hT hW₁⟩) with ⟨v, vm₁, ⟨U', l2, c2, s2⟩, hW₁, X', ⟨g', mk, t, L, e1, e2, hq, h1, hL, h2, h3⟩, st⟩ | ⟨q, vm₁, ⟨U', l2, c2, s2⟩, hW₁, X', ⟨g', mk, t, L, E, ce, e1, e2, hq, hce, hcv, hcl, h1, hL, h2, h3⟩, st⟩
  · dsimp only [Pt.U, Pt.locs, Pt.cells, Pt.slots] at X' e1 e2 h1 h2 h3 st
    subst h1; subst h2; subst h3
    exact Or.inl ⟨v, (T.setVm vm₁).calling g' mk (Value.ref b :: As).toArray, t, U', L, hT, X', hL, e1, e2, hq, st⟩
  · dsimp only [Pt.U, Pt.locs, Pt.cells, Pt.slots] at X' e1 e2 h1 h2 h3 st hcl
    subst h1; subst h2; subst h3
    exact Or.inr ⟨q, (T.setVm vm₁).calling g' mk (Value.ref b :: As).toArray, t, U', L, E, ce, hT, X', hL, e1, e2, hq, hce, hcv, vx_cls hW₁ hcl, st⟩
end VXIB
/-! ===== END ===== -/
/-! ===== BEGIN a private method of a nest mate that may throw (follows va_callVN, va_callSN, va_runVN, va_runSN) ===== -/
section
variable {p : Program} {l : Launch} {e : Env} {R : Room} {s : State} {m : MethodId} {args : Array Value} {below : List Frame} {meth : Method} {c : Code} {H : Heap} {locs : List Loc} {cells slots : Nat}
variable {T : State}
theorem vx_callVN (X : Stand p l e R s m args below meth c T locs cells slots) (hexec : p.tables.exec = Jvm.exec) {own C : String} {index : Nat} {host : String} {y : MethodName} {bytes : ByteArray} {maxL : Nat} {ret : Option FieldType}
    (hown : s.vm.findClass own = some m.cls) (hlink : (Cond.methodLinkNest own index y host).before args s = true) (hinst : (Cond.instanceMethod y).before args s = true) (hsel : (Cond.selects C y y).before args s = true)
    (hcode : (Cond.code y bytes maxL ret).before args s = true) (hy : y.cls ≠ "java/lang/invoke/MethodHandle" ∧ y.cls ≠ "java/lang/invoke/VarHandle")
    {W : Nat} {Pre : Pt → Array Value → Prop} {Post : Pt → Array Value → Option Value → Pt → Prop} {PostX : Pt → Array Value → Addr → Pt → Prop} (hK : vx_Back l R p e below s args y 3 W Pre Post PostX)
    {b : Addr} {cellB : Cell} (hcell : T.heap[b]? = some cellB) (hobj : cellB.vm.isStatics = false) (hcls : s.vm.findClass C = some cellB.cls)
    {g : JFrame} (hg : g.method = m) (hsize : g.locals.size = c.maxLocals) {argsL rest : List Value} (hlen : ∀ sig, parseMethodDescriptor y.desc = some sig → argsL.length = sig.parameters.length)
    (hstack : g.stack = argsL.reverse ++ .ref b :: rest) (hW : 2 * g.monitorRoom + (rest.map fun v => v.category).sum ≤ W) (hdg : decode c.code g.pc = .ok (.invokevirtual index, 3))
    (hpre : ∀ vm₁, s.WarmedH vm₁ → Pre ⟨T.setVm vm₁, locs, cells, slots⟩ (Value.ref b :: argsL).toArray) :
    (∃ (v : Option Value) (vm₁ : Vm) (B : Pt), s.WarmedH vm₁ ∧ Stand p l e R s m args below meth c B.U B.locs B.cells B.slots ∧ Post ⟨T.setVm vm₁, locs, cells, slots⟩ (Value.ref b :: argsL).toArray v B ∧
      ∀ target, Steps p.tables e below (B.U.setTop { g with pc := g.pc + 3, stack := v.toList ++ rest }) target → Steps p.tables e below (T.setTop g) target) ∨
    (∃ (q : Addr) (vm₁ : Vm) (B : Pt), s.WarmedH vm₁ ∧ Stand p l e R s m args below meth c B.U B.locs B.cells B.slots ∧ PostX ⟨T.setVm vm₁, locs, cells, slots⟩ (Value.ref b :: argsL).toArray q B ∧
      Steps p.tables e below (T.setTop g) ((B.U.setTop { g with stack := rest }).pushFrame (.throwing q))) := by
  obtain ⟨mk, methM, hnamed, hmethM, hstM, habM⟩ := Cond.instanceMethod_spec hinst
  obtain ⟨methM', cM, hmethM', -, -, -, -, -, -, hsigM⟩ := Cond.code_spec hnamed hcode
  cases hmethM.symm.trans hmethM'
  obtain ⟨c2, r2, m2, q1, q2, q3, q4, kP, hkP, hkPi⟩ := Cond.selects_spec hsel
  cases hcls.symm.trans q1
  cases (State.methodFound?_of_named hnamed hy).symm.trans q2
  cases hnamed.symm.trans q3
  have hselP : selectMethod e.platform s.vm cellB.cls mk = .method mk := by rw [Launch.admits_selectMethod X.admits]; exact q4
  obtain ⟨vm₁, X₁, hstep₁⟩ := X.invokevirtualNest hexec hown hlink hnamed hmethM hstM hkP hkPi hy (a := b) (cell := cellB) hcell
    (fun z h => by rw [h] at hobj; cases hobj) hselP hmethM habM hkP hkPi (g := g) hg (argsL := argsL) (rest := rest) (hlen _ hsigM) hstack hdg
  rcases hK m meth c ⟨T.setVm vm₁, locs, cells, slots⟩ { g with stack := rest } (.invokevirtual index) mk (Value.ref b :: argsL).toArray X₁ hg hsize hdg hW (X₁.named hnamed) (hpre vm₁ X₁.warmed) with ⟨v, B, X', hpost, hsteps⟩ | ⟨q, B, X', hpost, hsteps⟩
  · exact Or.inl ⟨v, vm₁, B, X₁.warmed, X', hpost, fun target h => hstep₁ _ fun acts => by rw [doInvoke_state]; exact hsteps.trans h⟩
  · exact Or.inr ⟨q, vm₁, B, X₁.warmed, X', hpost, hstep₁ _ fun acts => by rw [doInvoke_state]; exact hsteps⟩
theorem vx_callSN (X : Stand p l e R s m args below meth c T locs cells slots) (hexec : p.tables.exec = Jvm.exec) {own : String} {index : Nat} {host : String} {y : MethodName} {bytes : ByteArray} {maxL : Nat} {ret : Option FieldType}
    (hown : s.vm.findClass own = some m.cls) (hlink : (Cond.methodLinkNest own index y host).before args s = true) (hstat : (Cond.static y).before args s = true) (hinit : (Cond.initialized y.cls).before args s = true)
    (hcode : (Cond.code y bytes maxL ret).before args s = true) (hy : y.cls ≠ "java/lang/invoke/MethodHandle" ∧ y.cls ≠ "java/lang/invoke/VarHandle")
    {W : Nat} {Pre : Pt → Array Value → Prop} {Post : Pt → Array Value → Option Value → Pt → Prop} {PostX : Pt → Array Value → Addr → Pt → Prop} (hK : vx_Back l R p e below s args y 3 W Pre Post PostX)
    {g : JFrame} (hg : g.method = m) (hsize : g.locals.size = c.maxLocals) {argsL rest : List Value} (hlen : ∀ sig, parseMethodDescriptor y.desc = some sig → argsL.length = sig.parameters.length)
    (hstack : g.stack = argsL.reverse ++ rest) (hW : 2 * g.monitorRoom + (rest.map fun v => v.category).sum ≤ W) (hdg : decode c.code g.pc = .ok (.invokestatic index, 3))
    (hpre : ∀ vm₁, s.WarmedH vm₁ → Pre ⟨T.setVm vm₁, locs, cells, slots⟩ argsL.toArray) :
    (∃ (v : Option Value) (vm₁ : Vm) (B : Pt), s.WarmedH vm₁ ∧ Stand p l e R s m args below meth c B.U B.locs B.cells B.slots ∧ Post ⟨T.setVm vm₁, locs, cells, slots⟩ argsL.toArray v B ∧
      ∀ target, Steps p.tables e below (B.U.setTop { g with pc := g.pc + 3, stack := v.toList ++ rest }) target → Steps p.tables e below (T.setTop g) target) ∨
    (∃ (q : Addr) (vm₁ : Vm) (B : Pt), s.WarmedH vm₁ ∧ Stand p l e R s m args below meth c B.U B.locs B.cells B.slots ∧ PostX ⟨T.setVm vm₁, locs, cells, slots⟩ argsL.toArray q B ∧
      Steps p.tables e below (T.setTop g) ((B.U.setTop { g with stack := rest }).pushFrame (.throwing q))) := by
  obtain ⟨mk, hnamed⟩ := Cond.code_named hcode
  obtain ⟨methM, cM, hmethM, -, -, -, -, -, -, hsigM⟩ := Cond.code_spec hnamed hcode
  have hstatic : methM.isStatic = true := Cond.static_spec hnamed hmethM hstat
  obtain ⟨kP, hkP, -⟩ := className_of_methodNamed hnamed
  have hinitP : kP.init = .initialized := Cond.initialized_spec (findClass_of_methodNamed hnamed) hkP hinit
  obtain ⟨vm₁, X₁, hstep₁⟩ := X.invokestaticNest hexec hown hlink hnamed hmethM hstatic hkP hinitP hy (g := g) hg (argsL := argsL) (rest := rest) (hlen _ hsigM) hstack hdg
  rcases hK m meth c ⟨T.setVm vm₁, locs, cells, slots⟩ { g with stack := rest } (.invokestatic index) mk argsL.toArray X₁ hg hsize hdg hW (X₁.named hnamed) (hpre vm₁ X₁.warmed) with ⟨v, B, X', hpost, hsteps⟩ | ⟨q, B, X', hpost, hsteps⟩
  · exact Or.inl ⟨v, vm₁, B, X₁.warmed, X', hpost, fun target h => hstep₁ _ fun acts => by rw [doInvoke_state]; exact hsteps.trans h⟩
  · exact Or.inr ⟨q, vm₁, B, X₁.warmed, X', hpost, hstep₁ _ fun acts => by rw [doInvoke_state]; exact hsteps⟩
theorem vx_runVN {y : MethodName} {bytes cc : ByteArray} {maxL nL mc ms n index : Nat} {ret : Option FieldType} {ws : List Cond} {rm : Room} {Pc : Array Value → State → Prop} {Qc : Array Value → State → Outcome → State → Prop} {XC : String → State → State → Prop} {free : Addr → Prop} {Ts : List Cond} {own C host : String} {b : Addr} {As rest : List Value} {g : JFrame}
    (S : CallFix p m c cc nL s args Ts own) (hM : vx_Met l y ws rm Pc Qc XC mc ms free) (cw : va_CN R s args own index y host bytes maxL ret ws rm mc ms n ∧ (Cond.instanceMethod y).before args s = true ∧ (Cond.selects C y y).before args s = true) (hp : PreV s H C b Pc As)
    (hg : g.method = m) (hn : As.length = n) (hsize : g.locals.size = nL) (hstack : g.stack = As.reverse ++ .ref b :: rest) (hW : 2 * g.monitorRoom + (rest.map fun v => v.category).sum ≤ 8) (hdg : decode cc g.pc = .ok (.invokevirtual index, 3)) (hf : cells + mc ≤ R.cells ∧ slots + ms ≤ R.slots) :
    vx_Run p l e R s m args below meth c H locs cells slots mc ms g rest (Qc (Value.ref b :: As).toArray) XC free := by
  obtain ⟨⟨⟨hrc, hrs, hfr, hlo, hws, hcw⟩, hcode, hini, hy, hlen, hl⟩, hx1, hx2⟩ := cw
  have hK : vx_Back l R p e below s args y 3 8 (PreOf R mc ms Pc) (PostOf Qc mc ms free) (vx_Post XC mc ms free) := vx_back (bytes := bytes) (maxL := maxL) (ret := ret) hM hp.1 hrc hrs hfr hlo hws hcw (fun a' U hW => word_at hW (Or.inl (by first | rfl | simp [Cond.onTables, Cond.keeps, Cond.steady])) hini)
  obtain ⟨hx, hb, hml, ho, -⟩ := S
  obtain ⟨-, ⟨cellB, hcB, hoB, hclB⟩, hPc⟩ := hp
  intro T hT X
  rcases vx_callVN X hx (C := C) (bytes := bytes) (maxL := maxL) (ret := ret) ho hl hx1 hx2 hcode hy hK (by rw [hT]; exact hcB) hoB hclB hg (hsize.trans hml.symm) (argsL := As) (rest := rest) (fun sig h => hn.trans (hlen sig h)) hstack hW (by rw [hb]; exact hdg)
    (fun vm₁ hW₁ => ⟨hf.1, hf.2, hPc (T.setVm vm₁) hT hW₁⟩) with ⟨v, vm₁, ⟨U', l2, c2, s2⟩, hW₁, X', ⟨g', mk, t, L, e1, e2, hq, h1, hL, h2, h3⟩, st⟩ | ⟨q, vm₁, ⟨U', l2, c2, s2⟩, hW₁, X', ⟨g', mk, t, L, E, ce, e1, e2, hq, hce, hcv, hcl, h1, hL, h2, h3⟩, st⟩
  · dsimp only [Pt.U, Pt.locs, Pt.cells, Pt.slots] at X' e1 e2 h1 h2 h3 st
    subst h1; subst h2; subst h3
    exact Or.inl ⟨v, (T.setVm vm₁).calling g' mk (Value.ref b :: As).toArray, t, U', L, hT, X', hL, e1, e2, hq, st⟩
  · dsimp only [Pt.U, Pt.locs, Pt.cells, Pt.slots] at X' e1 e2 h1 h2 h3 st hcl
    subst h1; subst h2; subst h3
    exact Or.inr ⟨q, (T.setVm vm₁).calling g' mk (Value.ref b :: As).toArray, t, U', L, E, ce, hT, X', hL, e1, e2, hq, hce, hcv, vx_cls hW₁ hcl, st⟩
theorem vx_runSN {y : MethodName} {bytes cc : ByteArray} {maxL nL mc ms n index : Nat} {ret : Option FieldType} {ws : List Cond} {rm : Room} {Pc : Array Value → State → Prop} {Qc : Array Value → State → Outcome → State → Prop} {XC : String → State → State → Prop} {free : Addr → Prop} {Ts : List Cond} {own host : String} {As rest : List Value} {g : JFrame}
    (S : CallFix p m c cc nL s args Ts own) (hM : vx_Met l y ws rm Pc Qc XC mc ms free) (cw : va_CN R s args own index y host bytes maxL ret ws rm mc ms n ∧ (Cond.static y).before args s = true ∧ True) (hp : PreS s H Pc As)
    (hg : g.method = m) (hn : As.length = n) (hsize : g.locals.size = nL) (hstack : g.stack = As.reverse ++ rest) (hW : 2 * g.monitorRoom + (rest.map fun v => v.category).sum ≤ 8) (hdg : decode cc g.pc = .ok (.invokestatic index, 3)) (hf : cells + mc ≤ R.cells ∧ slots + ms ≤ R.slots) :
    vx_Run p l e R s m args below meth c H locs cells slots mc ms g rest (Qc As.toArray) XC free := by
  obtain ⟨⟨⟨hrc, hrs, hfr, hlo, hws, hcw⟩, hcode, hini, hy, hlen, hl⟩, hx1, hx2⟩ := cw
  have hK : vx_Back l R p e below s args y 3 8 (PreOf R mc ms Pc) (PostOf Qc mc ms free) (vx_Post XC mc ms free) := vx_back (bytes := bytes) (maxL := maxL) (ret := ret) hM hp.1 hrc hrs hfr hlo hws hcw (fun a' U hW => word_at hW (Or.inl (by first | rfl | simp [Cond.onTables, Cond.keeps, Cond.steady])) hini)
  obtain ⟨hx, hb, hml, ho, -⟩ := S
  have hPc := hp.2
  intro T hT X
  rcases vx_callSN X hx (bytes := bytes) (maxL := maxL) (ret := ret) ho hl hx1 hini hcode hy hK hg (hsize.trans hml.symm) (argsL := As) (rest := rest) (fun sig h => hn.trans (hlen sig h)) hstack hW (by rw [hb]; exact hdg)
    (fun vm₁ hW₁ => ⟨hf.1, hf.2, hPc (T.setVm vm₁) hT hW₁⟩) with ⟨v, vm₁, ⟨U', l2, c2, s2⟩, hW₁, X', ⟨g', mk, t, L, e1, e2, hq, h1, hL, h2, h3⟩, st⟩ | ⟨q, vm₁, ⟨U', l2, c2, s2⟩, hW₁, X', ⟨g', mk, t, L, E, ce, e1, e2, hq, hce, hcv, hcl, h1, hL, h2, h3⟩, st⟩
  · dsimp only [Pt.U, Pt.locs, Pt.cells, Pt.slots] at X' e1 e2 h1 h2 h3 st
    subst h1; subst h2; subst h3
    exact Or.inl ⟨v, (T.setVm vm₁).calling g' mk As.toArray, t, U', L, hT, X', hL, e1, e2, hq, st⟩
  · dsimp only [Pt.U, Pt.locs, Pt.cells, Pt.slots] at X' e1 e2 h1 h2 h3 st hcl
    subst h1; subst h2; subst h3
    exact Or.inr ⟨q, (T.setVm vm₁).calling g' mk As.toArray, t, U', L, E, ce, hT, X', hL, e1, e2, hq, hce, hcv, vx_cls hW₁ hcl, st⟩
end
/-! ===== END ===== -/
end
section
def RX0 : String := "PackageForge$Build"
def TX0 : u_T := fun k => match k with
  | 0 => ("PackageForge$Build", "isMade", "Z", false)
  | 1 => ("PackageForge$Build", "face", "I", false)
  | 2 => ("PackageForge$Build", "body", "I", false)
  | _ => ("PackageForge$Build", "neededFaces", "[I", true)
def tyX0 : Nat → FieldType := fun k => match k with
  | 0 => .boolean
  | 1 => .int
  | 2 => .int
  | _ => .array .int
abbrev wsX00 : List Cond := u_ws RX0 TX0 4
theorem nmX0 : ∀ a, a < 4 → ∀ b, b < 4 → a ≠ b → (TX0 a).2.1 ≠ (TX0 b).2.1 := by decide +kernel
theorem tyX0_ok : ∀ k, k < 4 → parseFieldDescriptor (TX0 k).2.2.1 = some (tyX0 k) := by decide +kernel
abbrev cX0_init : ByteArray := prog_2_method_1_code
def yX0_init : MethodName := ⟨RX0, "<init>", "()V"⟩
abbrev cX0_isOf : ByteArray := prog_2_method_2_code
def yX0_isOf : MethodName := ⟨RX0, "isOf", "(LPackageForge$Source;LPackageForge$Choice;)Z"⟩
abbrev cX0_remember : ByteArray := prog_2_method_3_code
def yX0_remember : MethodName := ⟨RX0, "remember", "(LPackageForge$Source;LPackageForge$Choice;)V"⟩
abbrev cX0_neededFace : ByteArray := prog_2_method_4_code
def yX0_neededFace : MethodName := ⟨RX0, "neededFace", "(LPackageForge$Source;LPackageForge$Choice;I)I"⟩
def RX1 : String := "PackageForge$Choice"
def TX1 : u_T := fun k => match k with
  | _ => ("PackageForge$Choice", "picks", "[LPackageForge$Release;", true)
def tyX1 : Nat → FieldType := fun k => match k with
  | _ => .array (.object "PackageForge$Release")
abbrev wsX10 : List Cond := u_ws RX1 TX1 1
theorem nmX1 : ∀ a, a < 1 → ∀ b, b < 1 → a ≠ b → (TX1 a).2.1 ≠ (TX1 b).2.1 := by decide +kernel
theorem tyX1_ok : ∀ k, k < 1 → parseFieldDescriptor (TX1 k).2.2.1 = some (tyX1 k) := by decide +kernel
abbrev cX1_init : ByteArray := prog_3_method_1_code
def yX1_init : MethodName := ⟨RX1, "<init>", "()V"⟩
abbrev cX1_at : ByteArray := prog_3_method_2_code
def yX1_at : MethodName := ⟨RX1, "at", "(I)LPackageForge$Release;"⟩
abbrev cX1_versionOf : ByteArray := prog_3_method_3_code
def yX1_versionOf : MethodName := ⟨RX1, "versionOf", "(I)I"⟩
abbrev cX1_put : ByteArray := prog_3_method_4_code
def yX1_put : MethodName := ⟨RX1, "put", "(ILPackageForge$Release;)V"⟩
abbrev cX1_clear : ByteArray := prog_3_method_5_code
def yX1_clear : MethodName := ⟨RX1, "clear", "()V"⟩
abbrev cX1_copyFrom : ByteArray := prog_3_method_6_code
def yX1_copyFrom : MethodName := ⟨RX1, "copyFrom", "(LPackageForge$Choice;)V"⟩
abbrev cX1_countDifferences : ByteArray := prog_3_method_7_code
def yX1_countDifferences : MethodName := ⟨RX1, "countDifferences", "(LPackageForge$Choice;)I"⟩
abbrev cX1_hasYanked : ByteArray := prog_3_method_8_code
def yX1_hasYanked : MethodName := ⟨RX1, "hasYanked", "()Z"⟩
def RX2 : String := "PackageForge$Chooser"
def TX2 : u_T := fun k => match k with
  | 0 => ("PackageForge$Chooser", "found", "LPackageForge$Choice;", true)
  | 1 => ("PackageForge$Chooser", "way", "LPackageForge$Choice;", true)
  | _ => ("PackageForge$Chooser", "taken", "[I", true)
def tyX2 : Nat → FieldType := fun k => match k with
  | 0 => .object "PackageForge$Choice"
  | 1 => .object "PackageForge$Choice"
  | _ => .array .int
abbrev wsX20 : List Cond := u_ws RX2 TX2 3
theorem nmX2 : ∀ a, a < 3 → ∀ b, b < 3 → a ≠ b → (TX2 a).2.1 ≠ (TX2 b).2.1 := by decide +kernel
theorem tyX2_ok : ∀ k, k < 3 → parseFieldDescriptor (TX2 k).2.2.1 = some (tyX2 k) := by decide +kernel
abbrev cX2_init : ByteArray := prog_4_method_1_code
def yX2_init : MethodName := ⟨RX2, "<init>", "()V"⟩
abbrev cX2_search : ByteArray := prog_4_method_2_code
def yX2_search : MethodName := ⟨RX2, "search", "(Ljava/util/ArrayList;ILPackageForge$Needs;)LPackageForge$Choice;"⟩
abbrev cX2_pickDown : ByteArray := prog_4_method_3_code
def yX2_pickDown : MethodName := ⟨RX2, "pickDown", "(Ljava/util/ArrayList;LPackageForge$Needs;LPackageForge$Choice;I)Z"⟩
abbrev cX2_goThroughAll : ByteArray := prog_4_method_4_code
def yX2_goThroughAll : MethodName := ⟨RX2, "goThroughAll", "(Ljava/util/ArrayList;ILPackageForge$Needs;)LPackageForge$Choice;"⟩
abbrev cX2_countWays : ByteArray := prog_4_method_5_code
def yX2_countWays : MethodName := ⟨RX2, "countWays", "(Ljava/util/ArrayList;I)I"⟩
abbrev cX2_goToNextWay : ByteArray := prog_4_method_6_code
def yX2_goToNextWay : MethodName := ⟨RX2, "goToNextWay", "(Ljava/util/ArrayList;I)V"⟩
abbrev cX2_isChoice : ByteArray := prog_4_method_7_code
def yX2_isChoice : MethodName := ⟨RX2, "isChoice", "(LPackageForge$Needs;LPackageForge$Choice;)Z"⟩
abbrev cX2_isReached : ByteArray := prog_4_method_8_code
def yX2_isReached : MethodName := ⟨RX2, "isReached", "(LPackageForge$Needs;LPackageForge$Choice;I)Z"⟩
abbrev cX2_isAdmitted : ByteArray := prog_4_method_9_code
def yX2_isAdmitted : MethodName := ⟨RX2, "isAdmitted", "(LPackageForge$Needs;LPackageForge$Choice;ILPackageForge$Release;)Z"⟩
def RX3 : String := "PackageForge$Needs"
def TX3 : u_T := fun k => match k with
  | 0 => ("PackageForge$Needs", "least", "[I", true)
  | _ => ("PackageForge$Needs", "greatest", "[I", true)
def tyX3 : Nat → FieldType := fun k => match k with
  | 0 => .array .int
  | _ => .array .int
abbrev wsX30 : List Cond := u_ws RX3 TX3 2
theorem nmX3 : ∀ a, a < 2 → ∀ b, b < 2 → a ≠ b → (TX3 a).2.1 ≠ (TX3 b).2.1 := by decide +kernel
theorem tyX3_ok : ∀ k, k < 2 → parseFieldDescriptor (TX3 k).2.2.1 = some (tyX3 k) := by decide +kernel
abbrev cX3_init : ByteArray := prog_5_method_1_code
def yX3_init : MethodName := ⟨RX3, "<init>", "()V"⟩
abbrev cX3_has : ByteArray := prog_5_method_2_code
def yX3_has : MethodName := ⟨RX3, "has", "(I)Z"⟩
abbrev cX3_admits : ByteArray := prog_5_method_3_code
def yX3_admits : MethodName := ⟨RX3, "admits", "(II)Z"⟩
abbrev cX3_put : ByteArray := prog_5_method_4_code
def yX3_put : MethodName := ⟨RX3, "put", "(III)V"⟩
abbrev cX3_drop : ByteArray := prog_5_method_5_code
def yX3_drop : MethodName := ⟨RX3, "drop", "(I)V"⟩
abbrev cX3_count : ByteArray := prog_5_method_6_code
def yX3_count : MethodName := ⟨RX3, "count", "()I"⟩
abbrev cX3_sameAs : ByteArray := prog_5_method_7_code
def yX3_sameAs : MethodName := ⟨RX3, "sameAs", "(LPackageForge$Needs;)Z"⟩
abbrev cX3_copyFrom : ByteArray := prog_5_method_8_code
def yX3_copyFrom : MethodName := ⟨RX3, "copyFrom", "(LPackageForge$Needs;)V"⟩
def RX4 : String := "PackageForge$Pack"
def TX4 : u_T := fun k => match k with
  | 0 => ("PackageForge$Pack", "owner", "I", true)
  | 1 => ("PackageForge$Pack", "source", "LPackageForge$Source;", true)
  | 2 => ("PackageForge$Pack", "build", "LPackageForge$Build;", true)
  | 3 => ("PackageForge$Pack", "trial", "LPackageForge$Trial;", true)
  | _ => ("PackageForge$Pack", "releases", "Ljava/util/ArrayList;", true)
def tyX4 : Nat → FieldType := fun k => match k with
  | 0 => .int
  | 1 => .object "PackageForge$Source"
  | 2 => .object "PackageForge$Build"
  | 3 => .object "PackageForge$Trial"
  | _ => .object "java/util/ArrayList"
abbrev wsX40 : List Cond := u_ws RX4 TX4 5
theorem nmX4 : ∀ a, a < 5 → ∀ b, b < 5 → a ≠ b → (TX4 a).2.1 ≠ (TX4 b).2.1 := by decide +kernel
theorem tyX4_ok : ∀ k, k < 5 → parseFieldDescriptor (TX4 k).2.2.1 = some (tyX4 k) := by decide +kernel
abbrev cX4_init : ByteArray := prog_6_method_1_code
def yX4_init : MethodName := ⟨RX4, "<init>", "(I)V"⟩
abbrev cX4_isPassedWith : ByteArray := prog_6_method_2_code
def yX4_isPassedWith : MethodName := ⟨RX4, "isPassedWith", "(LPackageForge$Choice;)Z"⟩
abbrev cX4_versionAhead : ByteArray := prog_6_method_3_code
def yX4_versionAhead : MethodName := ⟨RX4, "versionAhead", "()I"⟩
abbrev cX4_releaseOf : ByteArray := prog_6_method_4_code
def yX4_releaseOf : MethodName := ⟨RX4, "releaseOf", "(I)LPackageForge$Release;"⟩
def RX5 : String := "PackageForge$Release"
def TX5 : u_T := fun k => match k with
  | 0 => ("PackageForge$Release", "version", "I", true)
  | 1 => ("PackageForge$Release", "face", "I", true)
  | 2 => ("PackageForge$Release", "needs", "LPackageForge$Needs;", true)
  | 3 => ("PackageForge$Release", "lock", "LPackageForge$Choice;", true)
  | _ => ("PackageForge$Release", "isYanked", "Z", false)
def tyX5 : Nat → FieldType := fun k => match k with
  | 0 => .int
  | 1 => .int
  | 2 => .object "PackageForge$Needs"
  | 3 => .object "PackageForge$Choice"
  | _ => .boolean
abbrev wsX50 : List Cond := u_ws RX5 TX5 5
theorem nmX5 : ∀ a, a < 5 → ∀ b, b < 5 → a ≠ b → (TX5 a).2.1 ≠ (TX5 b).2.1 := by decide +kernel
theorem tyX5_ok : ∀ k, k < 5 → parseFieldDescriptor (TX5 k).2.2.1 = some (tyX5 k) := by decide +kernel
abbrev cX5_init : ByteArray := prog_7_method_1_code
def yX5_init : MethodName := ⟨RX5, "<init>", "(ILPackageForge$Source;LPackageForge$Choice;)V"⟩
abbrev cX5_isOutdated : ByteArray := prog_7_method_2_code
def yX5_isOutdated : MethodName := ⟨RX5, "isOutdated", "()Z"⟩
def RX6 : String := "PackageForge$Source"
def TX6 : u_T := fun k => match k with
  | 0 => ("PackageForge$Source", "face", "I", false)
  | 1 => ("PackageForge$Source", "body", "I", false)
  | _ => ("PackageForge$Source", "needs", "LPackageForge$Needs;", true)
def tyX6 : Nat → FieldType := fun k => match k with
  | 0 => .int
  | 1 => .int
  | _ => .object "PackageForge$Needs"
abbrev wsX60 : List Cond := u_ws RX6 TX6 3
theorem nmX6 : ∀ a, a < 3 → ∀ b, b < 3 → a ≠ b → (TX6 a).2.1 ≠ (TX6 b).2.1 := by decide +kernel
theorem tyX6_ok : ∀ k, k < 3 → parseFieldDescriptor (TX6 k).2.2.1 = some (tyX6 k) := by decide +kernel
abbrev cX6_init : ByteArray := prog_8_method_1_code
def yX6_init : MethodName := ⟨RX6, "<init>", "()V"⟩
abbrev cX6_sameAs : ByteArray := prog_8_method_2_code
def yX6_sameAs : MethodName := ⟨RX6, "sameAs", "(LPackageForge$Source;)Z"⟩
abbrev cX6_copyFrom : ByteArray := prog_8_method_3_code
def yX6_copyFrom : MethodName := ⟨RX6, "copyFrom", "(LPackageForge$Source;)V"⟩
def RX7 : String := "PackageForge$Test"
def TX7 : u_T := fun k => match k with
  | 0 => ("PackageForge$Test", "number", "I", true)
  | 1 => ("PackageForge$Test", "length", "I", true)
  | 2 => ("PackageForge$Test", "isFailing", "Z", false)
  | 3 => ("PackageForge$Test", "failures", "[Z", true)
  | _ => ("PackageForge$Test", "resultCount", "I", false)
def tyX7 : Nat → FieldType := fun k => match k with
  | 0 => .int
  | 1 => .int
  | 2 => .boolean
  | 3 => .array .boolean
  | _ => .int
abbrev wsX70 : List Cond := u_ws RX7 TX7 5
theorem nmX7 : ∀ a, a < 5 → ∀ b, b < 5 → a ≠ b → (TX7 a).2.1 ≠ (TX7 b).2.1 := by decide +kernel
theorem tyX7_ok : ∀ k, k < 5 → parseFieldDescriptor (TX7 k).2.2.1 = some (tyX7 k) := by decide +kernel
abbrev cX7_init : ByteArray := prog_9_method_1_code
def yX7_init : MethodName := ⟨RX7, "<init>", "(II)V"⟩
abbrev cX7_addResult : ByteArray := prog_9_method_2_code
def yX7_addResult : MethodName := ⟨RX7, "addResult", "(Z)V"⟩
abbrev cX7_forgetOldest : ByteArray := prog_9_method_3_code
def yX7_forgetOldest : MethodName := ⟨RX7, "forgetOldest", "()V"⟩
abbrev cX7_countTurns : ByteArray := prog_9_method_4_code
def yX7_countTurns : MethodName := ⟨RX7, "countTurns", "()I"⟩
def RX8 : String := "PackageForge$Trial"
def TX8 : u_T := fun k => match k with
  | 0 => ("PackageForge$Trial", "isPassed", "Z", false)
  | 1 => ("PackageForge$Trial", "source", "LPackageForge$Source;", true)
  | _ => ("PackageForge$Trial", "choice", "LPackageForge$Choice;", true)
def tyX8 : Nat → FieldType := fun k => match k with
  | 0 => .boolean
  | 1 => .object "PackageForge$Source"
  | _ => .object "PackageForge$Choice"
abbrev wsX80 : List Cond := u_ws RX8 TX8 3
theorem nmX8 : ∀ a, a < 3 → ∀ b, b < 3 → a ≠ b → (TX8 a).2.1 ≠ (TX8 b).2.1 := by decide +kernel
theorem tyX8_ok : ∀ k, k < 3 → parseFieldDescriptor (TX8 k).2.2.1 = some (tyX8 k) := by decide +kernel
abbrev cX8_init : ByteArray := prog_10_method_1_code
def yX8_init : MethodName := ⟨RX8, "<init>", "()V"⟩
abbrev cX8_remember : ByteArray := prog_10_method_2_code
def yX8_remember : MethodName := ⟨RX8, "remember", "(ZLPackageForge$Source;LPackageForge$Choice;)V"⟩
def RX9 : String := "PackageForge"
def TX9 : u_T := fun k => match k with
  | 0 => ("PackageForge", "packs", "Ljava/util/ArrayList;", true)
  | 1 => ("PackageForge", "tests", "Ljava/util/ArrayList;", true)
  | 2 => ("PackageForge", "releases", "Ljava/util/ArrayList;", true)
  | 3 => ("PackageForge", "chooser", "LPackageForge$Chooser;", true)
  | 4 => ("PackageForge", "budgets", "[I", true)
  | 5 => ("PackageForge", "freeAt", "[I", true)
  | 6 => ("PackageForge", "machineCount", "I", false)
  | 7 => ("PackageForge", "compilings", "I", false)
  | 8 => ("PackageForge", "testings", "I", false)
  | _ => ("PackageForge", "paidMinutes", "I", false)
def tyX9 : Nat → FieldType := fun k => match k with
  | 0 => .object "java/util/ArrayList"
  | 1 => .object "java/util/ArrayList"
  | 2 => .object "java/util/ArrayList"
  | 3 => .object "PackageForge$Chooser"
  | 4 => .array .int
  | 5 => .array .int
  | 6 => .int
  | 7 => .int
  | 8 => .int
  | _ => .int
abbrev wsX90 : List Cond := u_ws RX9 TX9 10
theorem nmX9 : ∀ a, a < 10 → ∀ b, b < 10 → a ≠ b → (TX9 a).2.1 ≠ (TX9 b).2.1 := by decide +kernel
theorem tyX9_ok : ∀ k, k < 10 → parseFieldDescriptor (TX9 k).2.2.1 = some (tyX9 k) := by decide +kernel
abbrev cX9_init : ByteArray := prog_1_method_1_code
def yX9_init : MethodName := ⟨RX9, "<init>", "()V"⟩
abbrev cX9_addPackage : ByteArray := prog_1_method_2_code
def yX9_addPackage : MethodName := ⟨RX9, "addPackage", "(I)I"⟩
abbrev cX9_setSource : ByteArray := prog_1_method_3_code
def yX9_setSource : MethodName := ⟨RX9, "setSource", "(III)I"⟩
abbrev cX9_need : ByteArray := prog_1_method_4_code
def yX9_need : MethodName := ⟨RX9, "need", "(IIII)I"⟩
abbrev cX9_dropNeed : ByteArray := prog_1_method_5_code
def yX9_dropNeed : MethodName := ⟨RX9, "dropNeed", "(II)I"⟩
abbrev cX9_chosen : ByteArray := prog_1_method_6_code
def yX9_chosen : MethodName := ⟨RX9, "chosen", "(II)I"⟩
abbrev cX9_chosenByAll : ByteArray := prog_1_method_7_code
def yX9_chosenByAll : MethodName := ⟨RX9, "chosenByAll", "(II)I"⟩
abbrev cX9_compile : ByteArray := prog_1_method_8_code
def yX9_compile : MethodName := ⟨RX9, "compile", "(I)Z"⟩
abbrev cX9_compiled : ByteArray := prog_1_method_9_code
def yX9_compiled : MethodName := ⟨RX9, "compiled", "()I"⟩
abbrev cX9_addTest : ByteArray := prog_1_method_10_code
def yX9_addTest : MethodName := ⟨RX9, "addTest", "(II)I"⟩
abbrev cX9_setFailing : ByteArray := prog_1_method_11_code
def yX9_setFailing : MethodName := ⟨RX9, "setFailing", "(IZ)Z"⟩
abbrev cX9_setMachines : ByteArray := prog_1_method_12_code
def yX9_setMachines : MethodName := ⟨RX9, "setMachines", "(I)I"⟩
abbrev cX9_fund : ByteArray := prog_1_method_13_code
def yX9_fund : MethodName := ⟨RX9, "fund", "(II)I"⟩
abbrev cX9_budget : ByteArray := prog_1_method_14_code
def yX9_budget : MethodName := ⟨RX9, "budget", "(I)I"⟩
abbrev cX9_testTime : ByteArray := prog_1_method_15_code
def yX9_testTime : MethodName := ⟨RX9, "testTime", "(I)I"⟩
abbrev cX9_test : ByteArray := prog_1_method_16_code
def yX9_test : MethodName := ⟨RX9, "test", "(I)I"⟩
abbrev cX9_flaky : ByteArray := prog_1_method_17_code
def yX9_flaky : MethodName := ⟨RX9, "flaky", "(I)I"⟩
abbrev cX9_flakiest : ByteArray := prog_1_method_18_code
def yX9_flakiest : MethodName := ⟨RX9, "flakiest", "()I"⟩
abbrev cX9_canPublish : ByteArray := prog_1_method_19_code
def yX9_canPublish : MethodName := ⟨RX9, "canPublish", "(I)Z"⟩
abbrev cX9_nextVersion : ByteArray := prog_1_method_20_code
def yX9_nextVersion : MethodName := ⟨RX9, "nextVersion", "(I)I"⟩
abbrev cX9_publish : ByteArray := prog_1_method_21_code
def yX9_publish : MethodName := ⟨RX9, "publish", "(I)I"⟩
abbrev cX9_yank : ByteArray := prog_1_method_22_code
def yX9_yank : MethodName := ⟨RX9, "yank", "(II)I"⟩
abbrev cX9_isStale : ByteArray := prog_1_method_23_code
def yX9_isStale : MethodName := ⟨RX9, "isStale", "(II)Z"⟩
abbrev cX9_relock : ByteArray := prog_1_method_24_code
def yX9_relock : MethodName := ⟨RX9, "relock", "(II)I"⟩
abbrev cX9_locked : ByteArray := prog_1_method_25_code
def yX9_locked : MethodName := ⟨RX9, "locked", "(III)I"⟩
abbrev cX9_goodShare : ByteArray := prog_1_method_26_code
def yX9_goodShare : MethodName := ⟨RX9, "goodShare", "()F"⟩
abbrev cX9_meanPaid : ByteArray := prog_1_method_27_code
def yX9_meanPaid : MethodName := ⟨RX9, "meanPaid", "()D"⟩
abbrev cX9_isWithin : ByteArray := prog_1_method_28_code
def yX9_isWithin : MethodName := ⟨RX9, "isWithin", "(III)Z"⟩
abbrev cX9_isPackageIndex : ByteArray := prog_1_method_29_code
def yX9_isPackageIndex : MethodName := ⟨RX9, "isPackageIndex", "(I)Z"⟩
abbrev cX9_isOwner : ByteArray := prog_1_method_30_code
def yX9_isOwner : MethodName := ⟨RX9, "isOwner", "(I)Z"⟩
abbrev cX9_checkOwner : ByteArray := prog_1_method_31_code
def yX9_checkOwner : MethodName := ⟨RX9, "checkOwner", "(I)V"⟩
abbrev cX9_checkPackage : ByteArray := prog_1_method_32_code
def yX9_checkPackage : MethodName := ⟨RX9, "checkPackage", "(I)V"⟩
abbrev cX9_packAt : ByteArray := prog_1_method_33_code
def yX9_packAt : MethodName := ⟨RX9, "packAt", "(I)LPackageForge$Pack;"⟩
abbrev cX9_testAt : ByteArray := prog_1_method_34_code
def yX9_testAt : MethodName := ⟨RX9, "testAt", "(I)LPackageForge$Test;"⟩
abbrev cX9_releaseAt : ByteArray := prog_1_method_35_code
def yX9_releaseAt : MethodName := ⟨RX9, "releaseAt", "(II)LPackageForge$Release;"⟩
abbrev cX9_checkNotYanked : ByteArray := prog_1_method_36_code
def yX9_checkNotYanked : MethodName := ⟨RX9, "checkNotYanked", "(LPackageForge$Release;)V"⟩
abbrev cX9_requireChoice : ByteArray := prog_1_method_37_code
def yX9_requireChoice : MethodName := ⟨RX9, "requireChoice", "(LPackageForge$Choice;)LPackageForge$Choice;"⟩
abbrev cX9_placeOnFirstFree : ByteArray := prog_1_method_38_code
def yX9_placeOnFirstFree : MethodName := ⟨RX9, "placeOnFirstFree", "(I)I"⟩
abbrev cX9_costOfTests : ByteArray := prog_1_method_39_code
def yX9_costOfTests : MethodName := ⟨RX9, "costOfTests", "(I)I"⟩
abbrev cX9_payFrom : ByteArray := prog_1_method_40_code
def yX9_payFrom : MethodName := ⟨RX9, "payFrom", "(II)Z"⟩
abbrev cX9_runTests : ByteArray := prog_1_method_41_code
def yX9_runTests : MethodName := ⟨RX9, "runTests", "(I)I"⟩
abbrev cX9_countStale : ByteArray := prog_1_method_42_code
def yX9_countStale : MethodName := ⟨RX9, "countStale", "()I"⟩
def RX10 : String := "PackageForgeModel"
def TX10 : u_T := fun k => match k with
  | 0 => ("PackageForgeModel", "owners", "[I", true)
  | 1 => ("PackageForgeModel", "faces", "[I", true)
  | 2 => ("PackageForgeModel", "bodies", "[I", true)
  | 3 => ("PackageForgeModel", "leasts", "[[I", true)
  | 4 => ("PackageForgeModel", "mosts", "[[I", true)
  | 5 => ("PackageForgeModel", "isCompiled", "[Z", true)
  | 6 => ("PackageForgeModel", "lastFaces", "[I", true)
  | 7 => ("PackageForgeModel", "lastBodies", "[I", true)
  | 8 => ("PackageForgeModel", "lastNeeds", "[I", true)
  | 9 => ("PackageForgeModel", "lastFacesOf", "[[I", true)
  | 10 => ("PackageForgeModel", "hasPassed", "[Z", true)
  | 11 => ("PackageForgeModel", "testedChoice", "[[I", true)
  | 12 => ("PackageForgeModel", "testedFaces", "[I", true)
  | 13 => ("PackageForgeModel", "testedBodies", "[I", true)
  | 14 => ("PackageForgeModel", "testedLeasts", "[[I", true)
  | 15 => ("PackageForgeModel", "testedMosts", "[[I", true)
  | 16 => ("PackageForgeModel", "packages", "I", false)
  | 17 => ("PackageForgeModel", "ofs", "[I", true)
  | 18 => ("PackageForgeModel", "versions", "[I", true)
  | 19 => ("PackageForgeModel", "releaseFaces", "[I", true)
  | 20 => ("PackageForgeModel", "releaseLeasts", "[[I", true)
  | 21 => ("PackageForgeModel", "releaseMosts", "[[I", true)
  | 22 => ("PackageForgeModel", "locks", "[[I", true)
  | 23 => ("PackageForgeModel", "isYanked", "[Z", true)
  | 24 => ("PackageForgeModel", "releases", "I", false)
  | 25 => ("PackageForgeModel", "testPackages", "[I", true)
  | 26 => ("PackageForgeModel", "lengths", "[I", true)
  | 27 => ("PackageForgeModel", "isFailing", "[Z", true)
  | 28 => ("PackageForgeModel", "records", "[[Z", true)
  | 29 => ("PackageForgeModel", "recorded", "[I", true)
  | 30 => ("PackageForgeModel", "tests", "I", false)
  | 31 => ("PackageForgeModel", "machines", "I", false)
  | 32 => ("PackageForgeModel", "budgets", "[I", true)
  | 33 => ("PackageForgeModel", "compiled", "I", false)
  | 34 => ("PackageForgeModel", "tested", "I", false)
  | 35 => ("PackageForgeModel", "paid", "I", false)
  | 36 => ("PackageForgeModel", "choice", "[I", true)
  | _ => ("PackageForgeModel", "thrown", "I", false)
def tyX10 : Nat → FieldType := fun k => match k with
  | 0 => .array .int
  | 1 => .array .int
  | 2 => .array .int
  | 3 => .array (.array .int)
  | 4 => .array (.array .int)
  | 5 => .array .boolean
  | 6 => .array .int
  | 7 => .array .int
  | 8 => .array .int
  | 9 => .array (.array .int)
  | 10 => .array .boolean
  | 11 => .array (.array .int)
  | 12 => .array .int
  | 13 => .array .int
  | 14 => .array (.array .int)
  | 15 => .array (.array .int)
  | 16 => .int
  | 17 => .array .int
  | 18 => .array .int
  | 19 => .array .int
  | 20 => .array (.array .int)
  | 21 => .array (.array .int)
  | 22 => .array (.array .int)
  | 23 => .array .boolean
  | 24 => .int
  | 25 => .array .int
  | 26 => .array .int
  | 27 => .array .boolean
  | 28 => .array (.array .boolean)
  | 29 => .array .int
  | 30 => .int
  | 31 => .int
  | 32 => .array .int
  | 33 => .int
  | 34 => .int
  | 35 => .int
  | 36 => .array .int
  | _ => .int
abbrev wsX100 : List Cond := u_ws RX10 TX10 38
theorem nmX10 : ∀ a, a < 38 → ∀ b, b < 38 → a ≠ b → (TX10 a).2.1 ≠ (TX10 b).2.1 := by decide +kernel
theorem tyX10_ok : ∀ k, k < 38 → parseFieldDescriptor (TX10 k).2.2.1 = some (tyX10 k) := by decide +kernel
abbrev cX10_init : ByteArray := prog_12_method_1_code
def yX10_init : MethodName := ⟨RX10, "<init>", "()V"⟩
abbrev cX10_thrown : ByteArray := prog_12_method_2_code
def yX10_thrown : MethodName := ⟨RX10, "thrown", "()I"⟩
abbrev cX10_raises : ByteArray := prog_12_method_3_code
def yX10_raises : MethodName := ⟨RX10, "raises", "(I)I"⟩
abbrev cX10_in : ByteArray := prog_12_method_4_code
def yX10_in : MethodName := ⟨RX10, "in", "(III)Z"⟩
abbrev cX10_isPackage : ByteArray := prog_12_method_5_code
def yX10_isPackage : MethodName := ⟨RX10, "isPackage", "(I)Z"⟩
abbrev cX10_lacks : ByteArray := prog_12_method_6_code
def yX10_lacks : MethodName := ⟨RX10, "lacks", "(I)Z"⟩
abbrev cX10_addPackage : ByteArray := prog_12_method_7_code
def yX10_addPackage : MethodName := ⟨RX10, "addPackage", "(I)I"⟩
abbrev cX10_setSource : ByteArray := prog_12_method_8_code
def yX10_setSource : MethodName := ⟨RX10, "setSource", "(III)I"⟩
abbrev cX10_needsOf : ByteArray := prog_12_method_9_code
def yX10_needsOf : MethodName := ⟨RX10, "needsOf", "(I)I"⟩
abbrev cX10_need : ByteArray := prog_12_method_10_code
def yX10_need : MethodName := ⟨RX10, "need", "(IIII)I"⟩
abbrev cX10_dropNeed : ByteArray := prog_12_method_11_code
def yX10_dropNeed : MethodName := ⟨RX10, "dropNeed", "(II)I"⟩
abbrev cX10_fits : ByteArray := prog_12_method_12_code
def yX10_fits : MethodName := ⟨RX10, "fits", "(I[I[I)Z"⟩
abbrev cX10_isReached : ByteArray := prog_12_method_13_code
def yX10_isReached : MethodName := ⟨RX10, "isReached", "(I[I)Z"⟩
abbrev cX10_chooses : ByteArray := prog_12_method_14_code
def yX10_chooses : MethodName := ⟨RX10, "chooses", "(I[I[I)Z"⟩
abbrev cX10_choosesFor : ByteArray := prog_12_method_15_code
def yX10_choosesFor : MethodName := ⟨RX10, "choosesFor", "(I)Z"⟩
abbrev cX10_versionIn : ByteArray := prog_12_method_16_code
def yX10_versionIn : MethodName := ⟨RX10, "versionIn", "(I)I"⟩
abbrev cX10_chosen : ByteArray := prog_12_method_17_code
def yX10_chosen : MethodName := ⟨RX10, "chosen", "(II)I"⟩
abbrev cX10_chosenByAll : ByteArray := prog_12_method_18_code
def yX10_chosenByAll : MethodName := ⟨RX10, "chosenByAll", "(II)I"⟩
abbrev cX10_isOther : ByteArray := prog_12_method_19_code
def yX10_isOther : MethodName := ⟨RX10, "isOther", "(I)Z"⟩
abbrev cX10_isNeeded : ByteArray := prog_12_method_20_code
def yX10_isNeeded : MethodName := ⟨RX10, "isNeeded", "(I)Z"⟩
abbrev cX10_compile : ByteArray := prog_12_method_21_code
def yX10_compile : MethodName := ⟨RX10, "compile", "(I)Z"⟩
abbrev cX10_compiled : ByteArray := prog_12_method_22_code
def yX10_compiled : MethodName := ⟨RX10, "compiled", "()I"⟩
abbrev cX10_addTest : ByteArray := prog_12_method_23_code
def yX10_addTest : MethodName := ⟨RX10, "addTest", "(II)I"⟩
abbrev cX10_noTest : ByteArray := prog_12_method_24_code
def yX10_noTest : MethodName := ⟨RX10, "noTest", "(I)Z"⟩
abbrev cX10_setFailing : ByteArray := prog_12_method_25_code
def yX10_setFailing : MethodName := ⟨RX10, "setFailing", "(IZ)Z"⟩
abbrev cX10_setMachines : ByteArray := prog_12_method_26_code
def yX10_setMachines : MethodName := ⟨RX10, "setMachines", "(I)I"⟩
abbrev cX10_fund : ByteArray := prog_12_method_27_code
def yX10_fund : MethodName := ⟨RX10, "fund", "(II)I"⟩
abbrev cX10_budget : ByteArray := prog_12_method_28_code
def yX10_budget : MethodName := ⟨RX10, "budget", "(I)I"⟩
abbrev cX10_starts : ByteArray := prog_12_method_29_code
def yX10_starts : MethodName := ⟨RX10, "starts", "(II)I"⟩
abbrev cX10_testTime : ByteArray := prog_12_method_30_code
def yX10_testTime : MethodName := ⟨RX10, "testTime", "(I)I"⟩
abbrev cX10_records : ByteArray := prog_12_method_31_code
def yX10_records : MethodName := ⟨RX10, "records", "(I)V"⟩
abbrev cX10_test : ByteArray := prog_12_method_32_code
def yX10_test : MethodName := ⟨RX10, "test", "(I)I"⟩
abbrev cX10_flakyOf : ByteArray := prog_12_method_33_code
def yX10_flakyOf : MethodName := ⟨RX10, "flakyOf", "(I)I"⟩
abbrev cX10_flaky : ByteArray := prog_12_method_34_code
def yX10_flaky : MethodName := ⟨RX10, "flaky", "(I)I"⟩
abbrev cX10_flakiest : ByteArray := prog_12_method_35_code
def yX10_flakiest : MethodName := ⟨RX10, "flakiest", "()I"⟩
abbrev cX10_can : ByteArray := prog_12_method_36_code
def yX10_can : MethodName := ⟨RX10, "can", "(I)Z"⟩
abbrev cX10_canPublish : ByteArray := prog_12_method_37_code
def yX10_canPublish : MethodName := ⟨RX10, "canPublish", "(I)Z"⟩
abbrev cX10_last : ByteArray := prog_12_method_38_code
def yX10_last : MethodName := ⟨RX10, "last", "(I)I"⟩
abbrev cX10_next : ByteArray := prog_12_method_39_code
def yX10_next : MethodName := ⟨RX10, "next", "(I)I"⟩
abbrev cX10_nextVersion : ByteArray := prog_12_method_40_code
def yX10_nextVersion : MethodName := ⟨RX10, "nextVersion", "(I)I"⟩
abbrev cX10_publish : ByteArray := prog_12_method_41_code
def yX10_publish : MethodName := ⟨RX10, "publish", "(I)I"⟩
abbrev cX10_find : ByteArray := prog_12_method_42_code
def yX10_find : MethodName := ⟨RX10, "find", "(II)I"⟩
abbrev cX10_stale : ByteArray := prog_12_method_43_code
def yX10_stale : MethodName := ⟨RX10, "stale", "(I)Z"⟩
abbrev cX10_yank : ByteArray := prog_12_method_44_code
def yX10_yank : MethodName := ⟨RX10, "yank", "(II)I"⟩
abbrev cX10_isStale : ByteArray := prog_12_method_45_code
def yX10_isStale : MethodName := ⟨RX10, "isStale", "(II)Z"⟩
abbrev cX10_relock : ByteArray := prog_12_method_46_code
def yX10_relock : MethodName := ⟨RX10, "relock", "(II)I"⟩
abbrev cX10_locked : ByteArray := prog_12_method_47_code
def yX10_locked : MethodName := ⟨RX10, "locked", "(III)I"⟩
abbrev cX10_goodShare : ByteArray := prog_12_method_48_code
def yX10_goodShare : MethodName := ⟨RX10, "goodShare", "()F"⟩
abbrev cX10_meanPaid : ByteArray := prog_12_method_49_code
def yX10_meanPaid : MethodName := ⟨RX10, "meanPaid", "()D"⟩
def RJx145de : String := "java/io/Serializable"
def TJx145de : u_T := fun k => match k with
  | _ => ("", "", "", false)
def tyJx145de : Nat → FieldType := fun k => match k with
  | _ => .int
abbrev wsJx145de0 : List Cond := u_ws RJx145de TJx145de 0
theorem nmJx145de : ∀ a, a < 0 → ∀ b, b < 0 → a ≠ b → (TJx145de a).2.1 ≠ (TJx145de b).2.1 := by decide +kernel
theorem tyJx145de_ok : ∀ k, k < 0 → parseFieldDescriptor (TJx145de k).2.2.1 = some (tyJx145de k) := by decide +kernel
def RJx00060 : String := "java/lang/ArrayIndexOutOfBoundsException"
def TJx00060 : u_T := fun k => match k with
  | 0 => ("java/lang/Throwable", "backtrace", "Ljava/lang/Object;", false)
  | 1 => ("java/lang/Throwable", "detailMessage", "Ljava/lang/String;", false)
  | 2 => ("java/lang/Throwable", "cause", "Ljava/lang/Throwable;", false)
  | 3 => ("java/lang/Throwable", "stackTrace", "[Ljava/lang/StackTraceElement;", false)
  | 4 => ("java/lang/Throwable", "depth", "I", false)
  | _ => ("java/lang/Throwable", "suppressedExceptions", "Ljava/util/List;", false)
def tyJx00060 : Nat → FieldType := fun k => match k with
  | 0 => .object "java/lang/Object"
  | 1 => .object "java/lang/String"
  | 2 => .object "java/lang/Throwable"
  | 3 => .array (.object "java/lang/StackTraceElement")
  | 4 => .int
  | _ => .object "java/util/List"
abbrev wsJx000600 : List Cond := u_ws RJx00060 TJx00060 6
theorem nmJx00060 : ∀ a, a < 6 → ∀ b, b < 6 → a ≠ b → (TJx00060 a).2.1 ≠ (TJx00060 b).2.1 := by decide +kernel
theorem tyJx00060_ok : ∀ k, k < 6 → parseFieldDescriptor (TJx00060 k).2.2.1 = some (tyJx00060 k) := by decide +kernel
abbrev cJx00060_init_a7421 : ByteArray := prog_15_method_2_code
def yJx00060_init_a7421 : MethodName := ⟨RJx00060, "<init>", "(Ljava/lang/String;)V"⟩
def RJx8e188 : String := "java/lang/Cloneable"
def TJx8e188 : u_T := fun k => match k with
  | _ => ("", "", "", false)
def tyJx8e188 : Nat → FieldType := fun k => match k with
  | _ => .int
abbrev wsJx8e1880 : List Cond := u_ws RJx8e188 TJx8e188 0
theorem nmJx8e188 : ∀ a, a < 0 → ∀ b, b < 0 → a ≠ b → (TJx8e188 a).2.1 ≠ (TJx8e188 b).2.1 := by decide +kernel
theorem tyJx8e188_ok : ∀ k, k < 0 → parseFieldDescriptor (TJx8e188 k).2.2.1 = some (tyJx8e188 k) := by decide +kernel
def RJ6 : String := "java/lang/Integer"
def TJ6 : u_T := fun k => match k with
  | _ => ("", "", "", false)
def tyJ6 : Nat → FieldType := fun k => match k with
  | _ => .int
abbrev wsJ60 : List Cond := u_ws RJ6 TJ6 0
theorem nmJ6 : ∀ a, a < 0 → ∀ b, b < 0 → a ≠ b → (TJ6 a).2.1 ≠ (TJ6 b).2.1 := by decide +kernel
theorem tyJ6_ok : ∀ k, k < 0 → parseFieldDescriptor (TJ6 k).2.2.1 = some (tyJ6 k) := by decide +kernel
abbrev cJ6_bitCount_0f7a4 : ByteArray := prog_21_method_49_code
def yJ6_bitCount_0f7a4 : MethodName := ⟨RJ6, "bitCount", "(I)I"⟩
def RJxab1ab : String := "java/lang/Iterable"
def TJxab1ab : u_T := fun k => match k with
  | _ => ("", "", "", false)
def tyJxab1ab : Nat → FieldType := fun k => match k with
  | _ => .int
abbrev wsJxab1ab0 : List Cond := u_ws RJxab1ab TJxab1ab 0
theorem nmJxab1ab : ∀ a, a < 0 → ∀ b, b < 0 → a ≠ b → (TJxab1ab a).2.1 ≠ (TJxab1ab b).2.1 := by decide +kernel
theorem tyJxab1ab_ok : ∀ k, k < 0 → parseFieldDescriptor (TJxab1ab k).2.2.1 = some (tyJxab1ab k) := by decide +kernel
def RJ9 : String := "java/lang/Math"
def TJ9 : u_T := fun k => match k with
  | _ => ("", "", "", false)
def tyJ9 : Nat → FieldType := fun k => match k with
  | _ => .int
abbrev wsJ90 : List Cond := u_ws RJ9 TJ9 0
theorem nmJ9 : ∀ a, a < 0 → ∀ b, b < 0 → a ≠ b → (TJ9 a).2.1 ≠ (TJ9 b).2.1 := by decide +kernel
theorem tyJ9_ok : ∀ k, k < 0 → parseFieldDescriptor (TJ9 k).2.2.1 = some (tyJ9 k) := by decide +kernel
abbrev cJ9_max_7cf53 : ByteArray := prog_23_method_65_code
def yJ9_max_7cf53 : MethodName := ⟨RJ9, "max", "(II)I"⟩
abbrev cJ9_min_7cf53 : ByteArray := prog_23_method_69_code
def yJ9_min_7cf53 : MethodName := ⟨RJ9, "min", "(II)I"⟩
def RJ0 : String := "java/lang/String"
def TJ0 : u_T := fun k => match k with
  | 0 => ("java/lang/String", "value", "[B", true)
  | _ => ("java/lang/String", "coder", "B", true)
def tyJ0 : Nat → FieldType := fun k => match k with
  | 0 => .array .byte
  | _ => .byte
abbrev wsJ00 : List Cond := u_ws RJ0 TJ0 2
theorem nmJ0 : ∀ a, a < 2 → ∀ b, b < 2 → a ≠ b → (TJ0 a).2.1 ≠ (TJ0 b).2.1 := by decide +kernel
theorem tyJ0_ok : ∀ k, k < 2 → parseFieldDescriptor (TJ0 k).2.2.1 = some (tyJ0 k) := by decide +kernel
def RJ10 : String := "java/lang/System"
def TJ10 : u_T := fun k => match k with
  | _ => ("", "", "", false)
def tyJ10 : Nat → FieldType := fun k => match k with
  | _ => .int
abbrev wsJ100 : List Cond := u_ws RJ10 TJ10 0
theorem nmJ10 : ∀ a, a < 0 → ∀ b, b < 0 → a ≠ b → (TJ10 a).2.1 ≠ (TJ10 b).2.1 := by decide +kernel
theorem tyJ10_ok : ∀ k, k < 0 → parseFieldDescriptor (TJ10 k).2.2.1 = some (tyJ10 k) := by decide +kernel
def RJxa1e45 : String := "java/util/AbstractCollection"
def TJxa1e45 : u_T := fun k => match k with
  | _ => ("", "", "", false)
def tyJxa1e45 : Nat → FieldType := fun k => match k with
  | _ => .int
abbrev wsJxa1e450 : List Cond := u_ws RJxa1e45 TJxa1e45 0
theorem nmJxa1e45 : ∀ a, a < 0 → ∀ b, b < 0 → a ≠ b → (TJxa1e45 a).2.1 ≠ (TJxa1e45 b).2.1 := by decide +kernel
theorem tyJxa1e45_ok : ∀ k, k < 0 → parseFieldDescriptor (TJxa1e45 k).2.2.1 = some (tyJxa1e45 k) := by decide +kernel
abbrev cJxa1e45_init_da8c8 : ByteArray := prog_29_method_1_code
def yJxa1e45_init_da8c8 : MethodName := ⟨RJxa1e45, "<init>", "()V"⟩
def RJxc12de : String := "java/util/AbstractList"
def TJxc12de : u_T := fun k => match k with
  | _ => ("", "", "", false)
def tyJxc12de : Nat → FieldType := fun k => match k with
  | _ => .int
abbrev wsJxc12de0 : List Cond := u_ws RJxc12de TJxc12de 0
theorem nmJxc12de : ∀ a, a < 0 → ∀ b, b < 0 → a ≠ b → (TJxc12de a).2.1 ≠ (TJxc12de b).2.1 := by decide +kernel
theorem tyJxc12de_ok : ∀ k, k < 0 → parseFieldDescriptor (TJxc12de k).2.2.1 = some (tyJxc12de k) := by decide +kernel
abbrev cJxc12de_init_da8c8 : ByteArray := prog_30_method_1_code
def yJxc12de_init_da8c8 : MethodName := ⟨RJxc12de, "<init>", "()V"⟩
def RJx4a65c : String := "java/util/ArrayList"
def TJx4a65c : u_T := fun k => match k with
  | 0 => ("java/util/AbstractList", "modCount", "I", false)
  | 1 => ("java/util/ArrayList", "elementData", "[Ljava/lang/Object;", false)
  | _ => ("java/util/ArrayList", "size", "I", false)
def tyJx4a65c : Nat → FieldType := fun k => match k with
  | 0 => .int
  | 1 => .array (.object "java/lang/Object")
  | _ => .int
abbrev wsJx4a65c0 : List Cond := u_ws RJx4a65c TJx4a65c 3
theorem nmJx4a65c : ∀ a, a < 3 → ∀ b, b < 3 → a ≠ b → (TJx4a65c a).2.1 ≠ (TJx4a65c b).2.1 := by decide +kernel
theorem tyJx4a65c_ok : ∀ k, k < 3 → parseFieldDescriptor (TJx4a65c k).2.2.1 = some (tyJx4a65c k) := by decide +kernel
abbrev cJx4a65c_init_da8c8 : ByteArray := prog_31_method_2_code
def yJx4a65c_init_da8c8 : MethodName := ⟨RJx4a65c, "<init>", "()V"⟩
abbrev cJx4a65c_grow_92f84 : ByteArray := prog_31_method_6_code
def yJx4a65c_grow_92f84 : MethodName := ⟨RJx4a65c, "grow", "(I)[Ljava/lang/Object;"⟩
abbrev cJx4a65c_grow_d5877 : ByteArray := prog_31_method_7_code
def yJx4a65c_grow_d5877 : MethodName := ⟨RJx4a65c, "grow", "()[Ljava/lang/Object;"⟩
abbrev cJx4a65c_size_8abf5 : ByteArray := prog_31_method_8_code
def yJx4a65c_size_8abf5 : MethodName := ⟨RJx4a65c, "size", "()I"⟩
abbrev cJx4a65c_isEmpty_aae02 : ByteArray := prog_31_method_9_code
def yJx4a65c_isEmpty_aae02 : MethodName := ⟨RJx4a65c, "isEmpty", "()Z"⟩
abbrev cJx4a65c_elementData_915e3 : ByteArray := prog_31_method_18_code
def yJx4a65c_elementData_915e3 : MethodName := ⟨RJx4a65c, "elementData", "(I)Ljava/lang/Object;"⟩
abbrev cJx4a65c_get_915e3 : ByteArray := prog_31_method_20_code
def yJx4a65c_get_915e3 : MethodName := ⟨RJx4a65c, "get", "(I)Ljava/lang/Object;"⟩
abbrev cJx4a65c_add_72be8 : ByteArray := prog_31_method_24_code
def yJx4a65c_add_72be8 : MethodName := ⟨RJx4a65c, "add", "(Ljava/lang/Object;[Ljava/lang/Object;I)V"⟩
abbrev cJx4a65c_add_9ea2d : ByteArray := prog_31_method_25_code
def yJx4a65c_add_9ea2d : MethodName := ⟨RJx4a65c, "add", "(Ljava/lang/Object;)Z"⟩
def RJ7 : String := "java/util/Arrays"
def TJ7 : u_T := fun k => match k with
  | _ => ("", "", "", false)
def tyJ7 : Nat → FieldType := fun k => match k with
  | _ => .int
abbrev wsJ70 : List Cond := u_ws RJ7 TJ7 0
theorem nmJ7 : ∀ a, a < 0 → ∀ b, b < 0 → a ≠ b → (TJ7 a).2.1 ≠ (TJ7 b).2.1 := by decide +kernel
theorem tyJ7_ok : ∀ k, k < 0 → parseFieldDescriptor (TJ7 k).2.2.1 = some (tyJ7 k) := by decide +kernel
abbrev cJ7_fill_53178 : ByteArray := prog_32_method_103_code
def yJ7_fill_53178 : MethodName := ⟨RJ7, "fill", "([II)V"⟩
abbrev cJ7_copyOf_1904c : ByteArray := prog_32_method_119_code
def yJ7_copyOf_1904c : MethodName := ⟨RJ7, "copyOf", "([Ljava/lang/Object;I)[Ljava/lang/Object;"⟩
abbrev cJ7_copyOf_6403c : ByteArray := prog_32_method_120_code
def yJ7_copyOf_6403c : MethodName := ⟨RJ7, "copyOf", "([Ljava/lang/Object;ILjava/lang/Class;)[Ljava/lang/Object;"⟩
def RJx5ef63 : String := "java/util/Collection"
def TJx5ef63 : u_T := fun k => match k with
  | _ => ("", "", "", false)
def tyJx5ef63 : Nat → FieldType := fun k => match k with
  | _ => .int
abbrev wsJx5ef630 : List Cond := u_ws RJx5ef63 TJx5ef63 0
theorem nmJx5ef63 : ∀ a, a < 0 → ∀ b, b < 0 → a ≠ b → (TJx5ef63 a).2.1 ≠ (TJx5ef63 b).2.1 := by decide +kernel
theorem tyJx5ef63_ok : ∀ k, k < 0 → parseFieldDescriptor (TJx5ef63 k).2.2.1 = some (tyJx5ef63 k) := by decide +kernel
def RJxbd725 : String := "java/util/List"
def TJxbd725 : u_T := fun k => match k with
  | _ => ("", "", "", false)
def tyJxbd725 : Nat → FieldType := fun k => match k with
  | _ => .int
abbrev wsJxbd7250 : List Cond := u_ws RJxbd725 TJxbd725 0
theorem nmJxbd725 : ∀ a, a < 0 → ∀ b, b < 0 → a ≠ b → (TJxbd725 a).2.1 ≠ (TJxbd725 b).2.1 := by decide +kernel
theorem tyJxbd725_ok : ∀ k, k < 0 → parseFieldDescriptor (TJxbd725 k).2.2.1 = some (tyJxbd725 k) := by decide +kernel
def RJ15 : String := "java/util/Objects"
def TJ15 : u_T := fun k => match k with
  | _ => ("", "", "", false)
def tyJ15 : Nat → FieldType := fun k => match k with
  | _ => .int
abbrev wsJ150 : List Cond := u_ws RJ15 TJ15 0
theorem nmJ15 : ∀ a, a < 0 → ∀ b, b < 0 → a ≠ b → (TJ15 a).2.1 ≠ (TJ15 b).2.1 := by decide +kernel
theorem tyJ15_ok : ∀ k, k < 0 → parseFieldDescriptor (TJ15 k).2.2.1 = some (tyJ15 k) := by decide +kernel
abbrev cJ15_checkIndex_7cf53 : ByteArray := prog_36_method_17_code
def yJ15_checkIndex_7cf53 : MethodName := ⟨RJ15, "checkIndex", "(II)I"⟩
def RJxf0a74 : String := "java/util/RandomAccess"
def TJxf0a74 : u_T := fun k => match k with
  | _ => ("", "", "", false)
def tyJxf0a74 : Nat → FieldType := fun k => match k with
  | _ => .int
abbrev wsJxf0a740 : List Cond := u_ws RJxf0a74 TJxf0a74 0
theorem nmJxf0a74 : ∀ a, a < 0 → ∀ b, b < 0 → a ≠ b → (TJxf0a74 a).2.1 ≠ (TJxf0a74 b).2.1 := by decide +kernel
theorem tyJxf0a74_ok : ∀ k, k < 0 → parseFieldDescriptor (TJxf0a74 k).2.2.1 = some (tyJxf0a74 k) := by decide +kernel
def RJxa66e6 : String := "java/util/SequencedCollection"
def TJxa66e6 : u_T := fun k => match k with
  | _ => ("", "", "", false)
def tyJxa66e6 : Nat → FieldType := fun k => match k with
  | _ => .int
abbrev wsJxa66e60 : List Cond := u_ws RJxa66e6 TJxa66e6 0
theorem nmJxa66e6 : ∀ a, a < 0 → ∀ b, b < 0 → a ≠ b → (TJxa66e6 a).2.1 ≠ (TJxa66e6 b).2.1 := by decide +kernel
theorem tyJxa66e6_ok : ∀ k, k < 0 → parseFieldDescriptor (TJxa66e6 k).2.2.1 = some (tyJxa66e6 k) := by decide +kernel
def RJ8 : String := "jdk/internal/util/ArraysSupport"
def TJ8 : u_T := fun k => match k with
  | _ => ("", "", "", false)
def tyJ8 : Nat → FieldType := fun k => match k with
  | _ => .int
abbrev wsJ80 : List Cond := u_ws RJ8 TJ8 0
theorem nmJ8 : ∀ a, a < 0 → ∀ b, b < 0 → a ≠ b → (TJ8 a).2.1 ≠ (TJ8 b).2.1 := by decide +kernel
theorem tyJ8_ok : ∀ k, k < 0 → parseFieldDescriptor (TJ8 k).2.2.1 = some (tyJ8 k) := by decide +kernel
abbrev cJ8_newLength_cabcc : ByteArray := prog_39_method_27_code
def yJ8_newLength_cabcc : MethodName := ⟨RJ8, "newLength", "(III)I"⟩
abbrev cJ8_hugeLength_7cf53 : ByteArray := prog_39_method_28_code
def yJ8_hugeLength_7cf53 : MethodName := ⟨RJ8, "hugeLength", "(II)I"⟩
def RJ3 : String := "jdk/internal/util/Preconditions"
def TJ3 : u_T := fun k => match k with
  | _ => ("", "", "", false)
def tyJ3 : Nat → FieldType := fun k => match k with
  | _ => .int
abbrev wsJ30 : List Cond := u_ws RJ3 TJ3 0
theorem nmJ3 : ∀ a, a < 0 → ∀ b, b < 0 → a ≠ b → (TJ3 a).2.1 ≠ (TJ3 b).2.1 := by decide +kernel
theorem tyJ3_ok : ∀ k, k < 0 → parseFieldDescriptor (TJ3 k).2.2.1 = some (tyJ3 k) := by decide +kernel
abbrev cJ3_checkIndex_8e157 : ByteArray := prog_40_method_11_code
def yJ3_checkIndex_8e157 : MethodName := ⟨RJ3, "checkIndex", "(IILjava/util/function/BiFunction;)I"⟩
def RL : String := "PackageForgeLaw"
abbrev cL_addPackage : ByteArray := method_3_code
def yL_addPackage : MethodName := ⟨RL, "addPackage", "(LPackageForge;I[J)I"⟩
abbrev cL_setSource : ByteArray := method_4_code
def yL_setSource : MethodName := ⟨RL, "setSource", "(LPackageForge;III[J)I"⟩
abbrev cL_need : ByteArray := method_5_code
def yL_need : MethodName := ⟨RL, "need", "(LPackageForge;IIII[J)I"⟩
abbrev cL_dropNeed : ByteArray := method_6_code
def yL_dropNeed : MethodName := ⟨RL, "dropNeed", "(LPackageForge;II[J)I"⟩
abbrev cL_chosen : ByteArray := method_7_code
def yL_chosen : MethodName := ⟨RL, "chosen", "(LPackageForge;II[J)I"⟩
abbrev cL_chosenByAll : ByteArray := method_8_code
def yL_chosenByAll : MethodName := ⟨RL, "chosenByAll", "(LPackageForge;II[J)I"⟩
abbrev cL_compile : ByteArray := method_9_code
def yL_compile : MethodName := ⟨RL, "compile", "(LPackageForge;I[J)I"⟩
abbrev cL_addTest : ByteArray := method_10_code
def yL_addTest : MethodName := ⟨RL, "addTest", "(LPackageForge;II[J)I"⟩
abbrev cL_setFailing : ByteArray := method_11_code
def yL_setFailing : MethodName := ⟨RL, "setFailing", "(LPackageForge;IZ[J)I"⟩
abbrev cL_setMachines : ByteArray := method_12_code
def yL_setMachines : MethodName := ⟨RL, "setMachines", "(LPackageForge;I[J)I"⟩
abbrev cL_fund : ByteArray := method_13_code
def yL_fund : MethodName := ⟨RL, "fund", "(LPackageForge;II[J)I"⟩
abbrev cL_budget : ByteArray := method_14_code
def yL_budget : MethodName := ⟨RL, "budget", "(LPackageForge;I[J)I"⟩
abbrev cL_testTime : ByteArray := method_15_code
def yL_testTime : MethodName := ⟨RL, "testTime", "(LPackageForge;I[J)I"⟩
abbrev cL_test : ByteArray := method_16_code
def yL_test : MethodName := ⟨RL, "test", "(LPackageForge;I[J)I"⟩
abbrev cL_flaky : ByteArray := method_17_code
def yL_flaky : MethodName := ⟨RL, "flaky", "(LPackageForge;I[J)I"⟩
abbrev cL_flakiest : ByteArray := method_18_code
def yL_flakiest : MethodName := ⟨RL, "flakiest", "(LPackageForge;[J)I"⟩
abbrev cL_canPublish : ByteArray := method_19_code
def yL_canPublish : MethodName := ⟨RL, "canPublish", "(LPackageForge;I[J)I"⟩
abbrev cL_nextVersion : ByteArray := method_20_code
def yL_nextVersion : MethodName := ⟨RL, "nextVersion", "(LPackageForge;I[J)I"⟩
abbrev cL_publish : ByteArray := method_21_code
def yL_publish : MethodName := ⟨RL, "publish", "(LPackageForge;I[J)I"⟩
abbrev cL_yank : ByteArray := method_22_code
def yL_yank : MethodName := ⟨RL, "yank", "(LPackageForge;II[J)I"⟩
abbrev cL_isStale : ByteArray := method_23_code
def yL_isStale : MethodName := ⟨RL, "isStale", "(LPackageForge;II[J)I"⟩
abbrev cL_relock : ByteArray := method_24_code
def yL_relock : MethodName := ⟨RL, "relock", "(LPackageForge;II[J)I"⟩
abbrev cL_locked : ByteArray := method_25_code
def yL_locked : MethodName := ⟨RL, "locked", "(LPackageForge;III[J)I"⟩
abbrev cL_goodShare : ByteArray := method_26_code
def yL_goodShare : MethodName := ⟨RL, "goodShare", "(LPackageForge;[D)I"⟩
abbrev cL_meanPaid : ByteArray := method_27_code
def yL_meanPaid : MethodName := ⟨RL, "meanPaid", "(LPackageForge;[D)I"⟩
abbrev cL_law : ByteArray := code
def yL_law : MethodName := ⟨RL, "law", "([I)Z"⟩
theorem wsL_law_x1 : ∀ w ∈ (vx_atS RX9 52 "java/lang/IllegalStateException" ["java/lang/RuntimeException", "java/lang/Exception"]).filter goodWord, w ∈ lw_tbl := by decide +kernel
theorem wsL_law_x2 : ∀ w ∈ (vx_atS RX9 79 "java/lang/IllegalArgumentException" ["java/lang/RuntimeException", "java/lang/Exception"]).filter goodWord, w ∈ lw_tbl := by decide +kernel
theorem wsL_law_x3 : ∀ w ∈ (vx_atS RX9 309 "java/lang/IndexOutOfBoundsException" ["java/lang/RuntimeException", "java/lang/Exception"]).filter goodWord, w ∈ lw_tbl := by decide +kernel
theorem wsL_law_x5 : ∀ w ∈ (vx_atS RX9 246 "java/lang/UnsupportedOperationException" ["java/lang/RuntimeException", "java/lang/Exception"]).filter goodWord, w ∈ lw_tbl := by decide +kernel
theorem wsL_law_x6 : ∀ w ∈ (vx_atS RX9 291 "java/lang/ArithmeticException" ["java/lang/RuntimeException", "java/lang/Exception"]).filter goodWord, w ∈ lw_tbl := by decide +kernel
theorem inJx145de : ∀ w ∈ wsJx145de0, w ∈ lw_tbl := by decide +kernel
theorem inJx00060 : ∀ w ∈ wsJx000600, w ∈ lw_tbl := by decide +kernel
theorem inJx8e188 : ∀ w ∈ wsJx8e1880, w ∈ lw_tbl := by decide +kernel
theorem inJ6 : ∀ w ∈ wsJ60, w ∈ lw_tbl := by decide +kernel
theorem inJxab1ab : ∀ w ∈ wsJxab1ab0, w ∈ lw_tbl := by decide +kernel
theorem inJ9 : ∀ w ∈ wsJ90, w ∈ lw_tbl := by decide +kernel
theorem inJ0 : ∀ w ∈ wsJ00, w ∈ lw_tbl := by decide +kernel
theorem inJ10 : ∀ w ∈ wsJ100, w ∈ lw_tbl := by decide +kernel
theorem inJxa1e45 : ∀ w ∈ wsJxa1e450, w ∈ lw_tbl := by decide +kernel
theorem inJxc12de : ∀ w ∈ wsJxc12de0, w ∈ lw_tbl := by decide +kernel
theorem inJ7 : ∀ w ∈ wsJ70, w ∈ lw_tbl := by decide +kernel
theorem inJx5ef63 : ∀ w ∈ wsJx5ef630, w ∈ lw_tbl := by decide +kernel
theorem inJxbd725 : ∀ w ∈ wsJxbd7250, w ∈ lw_tbl := by decide +kernel
theorem inJ15 : ∀ w ∈ wsJ150, w ∈ lw_tbl := by decide +kernel
theorem inJxf0a74 : ∀ w ∈ wsJxf0a740, w ∈ lw_tbl := by decide +kernel
theorem inJxa66e6 : ∀ w ∈ wsJxa66e60, w ∈ lw_tbl := by decide +kernel
theorem inJ8 : ∀ w ∈ wsJ80, w ∈ lw_tbl := by decide +kernel
theorem inJ3 : ∀ w ∈ wsJ30, w ∈ lw_tbl := by decide +kernel
abbrev vwCl : List vw_C := [(RJ0, TJ0, 2), (RJx00060, TJx00060, 6), (RJx4a65c, TJx4a65c, 3), (RX0, TX0, 4), (RX1, TX1, 1), (RX2, TX2, 3), (RX3, TX3, 2), (RX4, TX4, 5), (RX5, TX5, 5), (RX6, TX6, 3), (RX7, TX7, 5), (RX8, TX8, 3), (RX9, TX9, 10), (RX10, TX10, 38)]
end
section
theorem dX0_init_0 : decode cX0_init 0 = .ok (.aload_n 0, 1) := by decide +kernel
theorem dX0_init_1 : decode cX0_init 1 = .ok (.invokespecial 3, 3) := by decide +kernel
theorem dX0_init_4 : decode cX0_init 4 = .ok (.aload_n 0, 1) := by decide +kernel
theorem dX0_init_5 : decode cX0_init 5 = .ok (.bipush 6, 2) := by decide +kernel
theorem dX0_init_7 : decode cX0_init 7 = .ok (.newarray .int, 2) := by decide +kernel
theorem dX0_init_9 : decode cX0_init 9 = .ok (.putfield 9, 3) := by decide +kernel
theorem dX0_init_12 : decode cX0_init 12 = .ok (.return_, 1) := by decide +kernel
theorem dX0_isOf_0 : decode cX0_isOf 0 = .ok (.aload_n 0, 1) := by decide +kernel
theorem dX0_isOf_1 : decode cX0_isOf 1 = .ok (.getfield 15, 3) := by decide +kernel
theorem dX0_isOf_4 : decode cX0_isOf 4 = .ok (.ifCond .eq 25, 3) := by decide +kernel
theorem dX0_isOf_7 : decode cX0_isOf 7 = .ok (.aload_n 0, 1) := by decide +kernel
theorem dX0_isOf_8 : decode cX0_isOf 8 = .ok (.getfield 19, 3) := by decide +kernel
theorem dX0_isOf_11 : decode cX0_isOf 11 = .ok (.aload_n 1, 1) := by decide +kernel
theorem dX0_isOf_12 : decode cX0_isOf 12 = .ok (.getfield 23, 3) := by decide +kernel
theorem dX0_isOf_15 : decode cX0_isOf 15 = .ok (.if_icmp .ne 14, 3) := by decide +kernel
theorem dX0_isOf_18 : decode cX0_isOf 18 = .ok (.aload_n 0, 1) := by decide +kernel
theorem dX0_isOf_19 : decode cX0_isOf 19 = .ok (.getfield 26, 3) := by decide +kernel
theorem dX0_isOf_22 : decode cX0_isOf 22 = .ok (.aload_n 1, 1) := by decide +kernel
theorem dX0_isOf_23 : decode cX0_isOf 23 = .ok (.getfield 29, 3) := by decide +kernel
theorem dX0_isOf_26 : decode cX0_isOf 26 = .ok (.if_icmp .eq 5, 3) := by decide +kernel
theorem dX0_isOf_29 : decode cX0_isOf 29 = .ok (.iconst 0, 1) := by decide +kernel
theorem dX0_isOf_30 : decode cX0_isOf 30 = .ok (.ireturn, 1) := by decide +kernel
theorem dX0_isOf_31 : decode cX0_isOf 31 = .ok (.iconst 0, 1) := by decide +kernel
theorem dX0_isOf_32 : decode cX0_isOf 32 = .ok (.istore_n 3, 1) := by decide +kernel
theorem dX0_isOf_33 : decode cX0_isOf 33 = .ok (.iload_n 3, 1) := by decide +kernel
theorem dX0_isOf_34 : decode cX0_isOf 34 = .ok (.bipush 6, 2) := by decide +kernel
theorem dX0_isOf_36 : decode cX0_isOf 36 = .ok (.if_icmp .ge 26, 3) := by decide +kernel
theorem dX0_isOf_39 : decode cX0_isOf 39 = .ok (.aload_n 0, 1) := by decide +kernel
theorem dX0_isOf_40 : decode cX0_isOf 40 = .ok (.getfield 9, 3) := by decide +kernel
theorem dX0_isOf_43 : decode cX0_isOf 43 = .ok (.iload_n 3, 1) := by decide +kernel
theorem dX0_isOf_44 : decode cX0_isOf 44 = .ok (.iaload, 1) := by decide +kernel
theorem dX0_isOf_45 : decode cX0_isOf 45 = .ok (.aload_n 1, 1) := by decide +kernel
theorem dX0_isOf_46 : decode cX0_isOf 46 = .ok (.aload_n 2, 1) := by decide +kernel
theorem dX0_isOf_47 : decode cX0_isOf 47 = .ok (.iload_n 3, 1) := by decide +kernel
theorem dX0_isOf_48 : decode cX0_isOf 48 = .ok (.invokestatic 30, 3) := by decide +kernel
theorem dX0_isOf_51 : decode cX0_isOf 51 = .ok (.if_icmp .eq 5, 3) := by decide +kernel
theorem dX0_isOf_54 : decode cX0_isOf 54 = .ok (.iconst 0, 1) := by decide +kernel
theorem dX0_isOf_55 : decode cX0_isOf 55 = .ok (.ireturn, 1) := by decide +kernel
theorem dX0_isOf_56 : decode cX0_isOf 56 = .ok (.iinc 3 1, 3) := by decide +kernel
theorem dX0_isOf_59 : decode cX0_isOf 59 = .ok (.goto (-26), 3) := by decide +kernel
theorem dX0_isOf_62 : decode cX0_isOf 62 = .ok (.iconst 1, 1) := by decide +kernel
theorem dX0_isOf_63 : decode cX0_isOf 63 = .ok (.ireturn, 1) := by decide +kernel
theorem dX0_remember_0 : decode cX0_remember 0 = .ok (.aload_n 0, 1) := by decide +kernel
theorem dX0_remember_1 : decode cX0_remember 1 = .ok (.iconst 1, 1) := by decide +kernel
theorem dX0_remember_2 : decode cX0_remember 2 = .ok (.putfield 15, 3) := by decide +kernel
theorem dX0_remember_5 : decode cX0_remember 5 = .ok (.aload_n 0, 1) := by decide +kernel
theorem dX0_remember_6 : decode cX0_remember 6 = .ok (.aload_n 1, 1) := by decide +kernel
theorem dX0_remember_7 : decode cX0_remember 7 = .ok (.getfield 23, 3) := by decide +kernel
theorem dX0_remember_10 : decode cX0_remember 10 = .ok (.putfield 19, 3) := by decide +kernel
theorem dX0_remember_13 : decode cX0_remember 13 = .ok (.aload_n 0, 1) := by decide +kernel
theorem dX0_remember_14 : decode cX0_remember 14 = .ok (.aload_n 1, 1) := by decide +kernel
theorem dX0_remember_15 : decode cX0_remember 15 = .ok (.getfield 29, 3) := by decide +kernel
theorem dX0_remember_18 : decode cX0_remember 18 = .ok (.putfield 26, 3) := by decide +kernel
theorem dX0_remember_21 : decode cX0_remember 21 = .ok (.iconst 0, 1) := by decide +kernel
theorem dX0_remember_22 : decode cX0_remember 22 = .ok (.istore_n 3, 1) := by decide +kernel
theorem dX0_remember_23 : decode cX0_remember 23 = .ok (.iload_n 3, 1) := by decide +kernel
theorem dX0_remember_24 : decode cX0_remember 24 = .ok (.bipush 6, 2) := by decide +kernel
theorem dX0_remember_26 : decode cX0_remember 26 = .ok (.if_icmp .ge 21, 3) := by decide +kernel
theorem dX0_remember_29 : decode cX0_remember 29 = .ok (.aload_n 0, 1) := by decide +kernel
theorem dX0_remember_30 : decode cX0_remember 30 = .ok (.getfield 9, 3) := by decide +kernel
theorem dX0_remember_33 : decode cX0_remember 33 = .ok (.iload_n 3, 1) := by decide +kernel
theorem dX0_remember_34 : decode cX0_remember 34 = .ok (.aload_n 1, 1) := by decide +kernel
theorem dX0_remember_35 : decode cX0_remember 35 = .ok (.aload_n 2, 1) := by decide +kernel
theorem dX0_remember_36 : decode cX0_remember 36 = .ok (.iload_n 3, 1) := by decide +kernel
theorem dX0_remember_37 : decode cX0_remember 37 = .ok (.invokestatic 30, 3) := by decide +kernel
theorem dX0_remember_40 : decode cX0_remember 40 = .ok (.iastore, 1) := by decide +kernel
theorem dX0_remember_41 : decode cX0_remember 41 = .ok (.iinc 3 1, 3) := by decide +kernel
theorem dX0_remember_44 : decode cX0_remember 44 = .ok (.goto (-21), 3) := by decide +kernel
theorem dX0_remember_47 : decode cX0_remember 47 = .ok (.return_, 1) := by decide +kernel
theorem dX0_neededFace_0 : decode cX0_neededFace 0 = .ok (.aload_n 1, 1) := by decide +kernel
theorem dX0_neededFace_1 : decode cX0_neededFace 1 = .ok (.iload_n 2, 1) := by decide +kernel
theorem dX0_neededFace_2 : decode cX0_neededFace 2 = .ok (.invokevirtual 34, 3) := by decide +kernel
theorem dX0_neededFace_5 : decode cX0_neededFace 5 = .ok (.astore_n 3, 1) := by decide +kernel
theorem dX0_neededFace_6 : decode cX0_neededFace 6 = .ok (.aload_n 3, 1) := by decide +kernel
theorem dX0_neededFace_7 : decode cX0_neededFace 7 = .ok (.ifnull 14, 3) := by decide +kernel
theorem dX0_neededFace_10 : decode cX0_neededFace 10 = .ok (.aload_n 0, 1) := by decide +kernel
theorem dX0_neededFace_11 : decode cX0_neededFace 11 = .ok (.getfield 40, 3) := by decide +kernel
theorem dX0_neededFace_14 : decode cX0_neededFace 14 = .ok (.iload_n 2, 1) := by decide +kernel
theorem dX0_neededFace_15 : decode cX0_neededFace 15 = .ok (.invokevirtual 44, 3) := by decide +kernel
theorem dX0_neededFace_18 : decode cX0_neededFace 18 = .ok (.ifCond .ne 7, 3) := by decide +kernel
theorem dX0_neededFace_21 : decode cX0_neededFace 21 = .ok (.iconst (-1), 1) := by decide +kernel
theorem dX0_neededFace_22 : decode cX0_neededFace 22 = .ok (.goto 7, 3) := by decide +kernel
theorem dX0_neededFace_25 : decode cX0_neededFace 25 = .ok (.aload_n 3, 1) := by decide +kernel
theorem dX0_neededFace_26 : decode cX0_neededFace 26 = .ok (.getfield 50, 3) := by decide +kernel
theorem dX0_neededFace_29 : decode cX0_neededFace 29 = .ok (.ireturn, 1) := by decide +kernel
theorem dX1_init_0 : decode cX1_init 0 = .ok (.aload_n 0, 1) := by decide +kernel
theorem dX1_init_1 : decode cX1_init 1 = .ok (.invokespecial 3, 3) := by decide +kernel
theorem dX1_init_4 : decode cX1_init 4 = .ok (.aload_n 0, 1) := by decide +kernel
theorem dX1_init_5 : decode cX1_init 5 = .ok (.bipush 6, 2) := by decide +kernel
theorem dX1_init_7 : decode cX1_init 7 = .ok (.anewarray 9, 3) := by decide +kernel
theorem dX1_init_10 : decode cX1_init 10 = .ok (.putfield 11, 3) := by decide +kernel
theorem dX1_init_13 : decode cX1_init 13 = .ok (.return_, 1) := by decide +kernel
theorem dX1_at_0 : decode cX1_at 0 = .ok (.iload_n 1, 1) := by decide +kernel
theorem dX1_at_1 : decode cX1_at 1 = .ok (.invokestatic 17, 3) := by decide +kernel
theorem dX1_at_4 : decode cX1_at 4 = .ok (.ifCond .eq 12, 3) := by decide +kernel
theorem dX1_at_7 : decode cX1_at 7 = .ok (.aload_n 0, 1) := by decide +kernel
theorem dX1_at_8 : decode cX1_at 8 = .ok (.getfield 11, 3) := by decide +kernel
theorem dX1_at_11 : decode cX1_at 11 = .ok (.iload_n 1, 1) := by decide +kernel
theorem dX1_at_12 : decode cX1_at 12 = .ok (.aaload, 1) := by decide +kernel
theorem dX1_at_13 : decode cX1_at 13 = .ok (.goto 4, 3) := by decide +kernel
theorem dX1_at_16 : decode cX1_at 16 = .ok (.aconst_null, 1) := by decide +kernel
theorem dX1_at_17 : decode cX1_at 17 = .ok (.areturn, 1) := by decide +kernel
theorem dX1_versionOf_0 : decode cX1_versionOf 0 = .ok (.aload_n 0, 1) := by decide +kernel
theorem dX1_versionOf_1 : decode cX1_versionOf 1 = .ok (.iload_n 1, 1) := by decide +kernel
theorem dX1_versionOf_2 : decode cX1_versionOf 2 = .ok (.invokevirtual 21, 3) := by decide +kernel
theorem dX1_versionOf_5 : decode cX1_versionOf 5 = .ok (.astore_n 2, 1) := by decide +kernel
theorem dX1_versionOf_6 : decode cX1_versionOf 6 = .ok (.aload_n 2, 1) := by decide +kernel
theorem dX1_versionOf_7 : decode cX1_versionOf 7 = .ok (.ifnonnull 7, 3) := by decide +kernel
theorem dX1_versionOf_10 : decode cX1_versionOf 10 = .ok (.iconst 0, 1) := by decide +kernel
theorem dX1_versionOf_11 : decode cX1_versionOf 11 = .ok (.goto 7, 3) := by decide +kernel
theorem dX1_versionOf_14 : decode cX1_versionOf 14 = .ok (.aload_n 2, 1) := by decide +kernel
theorem dX1_versionOf_15 : decode cX1_versionOf 15 = .ok (.getfield 25, 3) := by decide +kernel
theorem dX1_versionOf_18 : decode cX1_versionOf 18 = .ok (.ireturn, 1) := by decide +kernel
theorem dX1_put_0 : decode cX1_put 0 = .ok (.iload_n 1, 1) := by decide +kernel
theorem dX1_put_1 : decode cX1_put 1 = .ok (.invokestatic 17, 3) := by decide +kernel
theorem dX1_put_4 : decode cX1_put 4 = .ok (.ifCond .eq 10, 3) := by decide +kernel
theorem dX1_put_7 : decode cX1_put 7 = .ok (.aload_n 0, 1) := by decide +kernel
theorem dX1_put_8 : decode cX1_put 8 = .ok (.getfield 11, 3) := by decide +kernel
theorem dX1_put_11 : decode cX1_put 11 = .ok (.iload_n 1, 1) := by decide +kernel
theorem dX1_put_12 : decode cX1_put 12 = .ok (.aload_n 2, 1) := by decide +kernel
theorem dX1_put_13 : decode cX1_put 13 = .ok (.aastore, 1) := by decide +kernel
theorem dX1_put_14 : decode cX1_put 14 = .ok (.return_, 1) := by decide +kernel
theorem dX1_clear_0 : decode cX1_clear 0 = .ok (.iconst 0, 1) := by decide +kernel
theorem dX1_clear_1 : decode cX1_clear 1 = .ok (.istore_n 1, 1) := by decide +kernel
theorem dX1_clear_2 : decode cX1_clear 2 = .ok (.iload_n 1, 1) := by decide +kernel
theorem dX1_clear_3 : decode cX1_clear 3 = .ok (.bipush 6, 2) := by decide +kernel
theorem dX1_clear_5 : decode cX1_clear 5 = .ok (.if_icmp .ge 16, 3) := by decide +kernel
theorem dX1_clear_8 : decode cX1_clear 8 = .ok (.aload_n 0, 1) := by decide +kernel
theorem dX1_clear_9 : decode cX1_clear 9 = .ok (.getfield 11, 3) := by decide +kernel
theorem dX1_clear_12 : decode cX1_clear 12 = .ok (.iload_n 1, 1) := by decide +kernel
theorem dX1_clear_13 : decode cX1_clear 13 = .ok (.aconst_null, 1) := by decide +kernel
theorem dX1_clear_14 : decode cX1_clear 14 = .ok (.aastore, 1) := by decide +kernel
theorem dX1_clear_15 : decode cX1_clear 15 = .ok (.iinc 1 1, 3) := by decide +kernel
theorem dX1_clear_18 : decode cX1_clear 18 = .ok (.goto (-16), 3) := by decide +kernel
theorem dX1_clear_21 : decode cX1_clear 21 = .ok (.return_, 1) := by decide +kernel
theorem dX1_copyFrom_0 : decode cX1_copyFrom 0 = .ok (.iconst 0, 1) := by decide +kernel
theorem dX1_copyFrom_1 : decode cX1_copyFrom 1 = .ok (.istore_n 2, 1) := by decide +kernel
theorem dX1_copyFrom_2 : decode cX1_copyFrom 2 = .ok (.iload_n 2, 1) := by decide +kernel
theorem dX1_copyFrom_3 : decode cX1_copyFrom 3 = .ok (.bipush 6, 2) := by decide +kernel
theorem dX1_copyFrom_5 : decode cX1_copyFrom 5 = .ok (.if_icmp .ge 21, 3) := by decide +kernel
theorem dX1_copyFrom_8 : decode cX1_copyFrom 8 = .ok (.aload_n 0, 1) := by decide +kernel
theorem dX1_copyFrom_9 : decode cX1_copyFrom 9 = .ok (.getfield 11, 3) := by decide +kernel
theorem dX1_copyFrom_12 : decode cX1_copyFrom 12 = .ok (.iload_n 2, 1) := by decide +kernel
theorem dX1_copyFrom_13 : decode cX1_copyFrom 13 = .ok (.aload_n 1, 1) := by decide +kernel
theorem dX1_copyFrom_14 : decode cX1_copyFrom 14 = .ok (.getfield 11, 3) := by decide +kernel
theorem dX1_copyFrom_17 : decode cX1_copyFrom 17 = .ok (.iload_n 2, 1) := by decide +kernel
theorem dX1_copyFrom_18 : decode cX1_copyFrom 18 = .ok (.aaload, 1) := by decide +kernel
theorem dX1_copyFrom_19 : decode cX1_copyFrom 19 = .ok (.aastore, 1) := by decide +kernel
theorem dX1_copyFrom_20 : decode cX1_copyFrom 20 = .ok (.iinc 2 1, 3) := by decide +kernel
theorem dX1_copyFrom_23 : decode cX1_copyFrom 23 = .ok (.goto (-21), 3) := by decide +kernel
theorem dX1_copyFrom_26 : decode cX1_copyFrom 26 = .ok (.return_, 1) := by decide +kernel
theorem dX1_countDifferences_0 : decode cX1_countDifferences 0 = .ok (.iconst 0, 1) := by decide +kernel
theorem dX1_countDifferences_1 : decode cX1_countDifferences 1 = .ok (.istore_n 2, 1) := by decide +kernel
theorem dX1_countDifferences_2 : decode cX1_countDifferences 2 = .ok (.iconst 0, 1) := by decide +kernel
theorem dX1_countDifferences_3 : decode cX1_countDifferences 3 = .ok (.istore_n 3, 1) := by decide +kernel
theorem dX1_countDifferences_4 : decode cX1_countDifferences 4 = .ok (.iload_n 3, 1) := by decide +kernel
theorem dX1_countDifferences_5 : decode cX1_countDifferences 5 = .ok (.bipush 6, 2) := by decide +kernel
theorem dX1_countDifferences_7 : decode cX1_countDifferences 7 = .ok (.if_icmp .ge 32, 3) := by decide +kernel
theorem dX1_countDifferences_10 : decode cX1_countDifferences 10 = .ok (.iload_n 2, 1) := by decide +kernel
theorem dX1_countDifferences_11 : decode cX1_countDifferences 11 = .ok (.aload_n 0, 1) := by decide +kernel
theorem dX1_countDifferences_12 : decode cX1_countDifferences 12 = .ok (.getfield 11, 3) := by decide +kernel
theorem dX1_countDifferences_15 : decode cX1_countDifferences 15 = .ok (.iload_n 3, 1) := by decide +kernel
theorem dX1_countDifferences_16 : decode cX1_countDifferences 16 = .ok (.aaload, 1) := by decide +kernel
theorem dX1_countDifferences_17 : decode cX1_countDifferences 17 = .ok (.aload_n 1, 1) := by decide +kernel
theorem dX1_countDifferences_18 : decode cX1_countDifferences 18 = .ok (.getfield 11, 3) := by decide +kernel
theorem dX1_countDifferences_21 : decode cX1_countDifferences 21 = .ok (.iload_n 3, 1) := by decide +kernel
theorem dX1_countDifferences_22 : decode cX1_countDifferences 22 = .ok (.aaload, 1) := by decide +kernel
theorem dX1_countDifferences_23 : decode cX1_countDifferences 23 = .ok (.if_acmp .ne 7, 3) := by decide +kernel
theorem dX1_countDifferences_26 : decode cX1_countDifferences 26 = .ok (.iconst 0, 1) := by decide +kernel
theorem dX1_countDifferences_27 : decode cX1_countDifferences 27 = .ok (.goto 4, 3) := by decide +kernel
theorem dX1_countDifferences_30 : decode cX1_countDifferences 30 = .ok (.iconst 1, 1) := by decide +kernel
theorem dX1_countDifferences_31 : decode cX1_countDifferences 31 = .ok (.iadd, 1) := by decide +kernel
theorem dX1_countDifferences_32 : decode cX1_countDifferences 32 = .ok (.istore_n 2, 1) := by decide +kernel
theorem dX1_countDifferences_33 : decode cX1_countDifferences 33 = .ok (.iinc 3 1, 3) := by decide +kernel
theorem dX1_countDifferences_36 : decode cX1_countDifferences 36 = .ok (.goto (-32), 3) := by decide +kernel
theorem dX1_countDifferences_39 : decode cX1_countDifferences 39 = .ok (.iload_n 2, 1) := by decide +kernel
theorem dX1_countDifferences_40 : decode cX1_countDifferences 40 = .ok (.ireturn, 1) := by decide +kernel
theorem dX1_hasYanked_0 : decode cX1_hasYanked 0 = .ok (.iconst 0, 1) := by decide +kernel
theorem dX1_hasYanked_1 : decode cX1_hasYanked 1 = .ok (.istore_n 1, 1) := by decide +kernel
theorem dX1_hasYanked_2 : decode cX1_hasYanked 2 = .ok (.iload_n 1, 1) := by decide +kernel
theorem dX1_hasYanked_3 : decode cX1_hasYanked 3 = .ok (.bipush 6, 2) := by decide +kernel
theorem dX1_hasYanked_5 : decode cX1_hasYanked 5 = .ok (.if_icmp .ge 29, 3) := by decide +kernel
theorem dX1_hasYanked_8 : decode cX1_hasYanked 8 = .ok (.aload_n 0, 1) := by decide +kernel
theorem dX1_hasYanked_9 : decode cX1_hasYanked 9 = .ok (.getfield 11, 3) := by decide +kernel
theorem dX1_hasYanked_12 : decode cX1_hasYanked 12 = .ok (.iload_n 1, 1) := by decide +kernel
theorem dX1_hasYanked_13 : decode cX1_hasYanked 13 = .ok (.aaload, 1) := by decide +kernel
theorem dX1_hasYanked_14 : decode cX1_hasYanked 14 = .ok (.astore_n 2, 1) := by decide +kernel
theorem dX1_hasYanked_15 : decode cX1_hasYanked 15 = .ok (.aload_n 2, 1) := by decide +kernel
theorem dX1_hasYanked_16 : decode cX1_hasYanked 16 = .ok (.ifnull 12, 3) := by decide +kernel
theorem dX1_hasYanked_19 : decode cX1_hasYanked 19 = .ok (.aload_n 2, 1) := by decide +kernel
theorem dX1_hasYanked_20 : decode cX1_hasYanked 20 = .ok (.getfield 29, 3) := by decide +kernel
theorem dX1_hasYanked_23 : decode cX1_hasYanked 23 = .ok (.ifCond .eq 5, 3) := by decide +kernel
theorem dX1_hasYanked_26 : decode cX1_hasYanked 26 = .ok (.iconst 1, 1) := by decide +kernel
theorem dX1_hasYanked_27 : decode cX1_hasYanked 27 = .ok (.ireturn, 1) := by decide +kernel
theorem dX1_hasYanked_28 : decode cX1_hasYanked 28 = .ok (.iinc 1 1, 3) := by decide +kernel
theorem dX1_hasYanked_31 : decode cX1_hasYanked 31 = .ok (.goto (-29), 3) := by decide +kernel
theorem dX1_hasYanked_34 : decode cX1_hasYanked 34 = .ok (.iconst 0, 1) := by decide +kernel
theorem dX1_hasYanked_35 : decode cX1_hasYanked 35 = .ok (.ireturn, 1) := by decide +kernel
theorem dX2_init_0 : decode cX2_init 0 = .ok (.aload_n 0, 1) := by decide +kernel
theorem dX2_init_1 : decode cX2_init 1 = .ok (.invokespecial 3, 3) := by decide +kernel
theorem dX2_init_4 : decode cX2_init 4 = .ok (.aload_n 0, 1) := by decide +kernel
theorem dX2_init_5 : decode cX2_init 5 = .ok (.new 9, 3) := by decide +kernel
theorem dX2_init_8 : decode cX2_init 8 = .ok (.dup, 1) := by decide +kernel
theorem dX2_init_9 : decode cX2_init 9 = .ok (.invokespecial 11, 3) := by decide +kernel
theorem dX2_init_12 : decode cX2_init 12 = .ok (.putfield 12, 3) := by decide +kernel
theorem dX2_init_15 : decode cX2_init 15 = .ok (.aload_n 0, 1) := by decide +kernel
theorem dX2_init_16 : decode cX2_init 16 = .ok (.new 9, 3) := by decide +kernel
theorem dX2_init_19 : decode cX2_init 19 = .ok (.dup, 1) := by decide +kernel
theorem dX2_init_20 : decode cX2_init 20 = .ok (.invokespecial 11, 3) := by decide +kernel
theorem dX2_init_23 : decode cX2_init 23 = .ok (.putfield 18, 3) := by decide +kernel
theorem dX2_init_26 : decode cX2_init 26 = .ok (.aload_n 0, 1) := by decide +kernel
theorem dX2_init_27 : decode cX2_init 27 = .ok (.bipush 6, 2) := by decide +kernel
theorem dX2_init_29 : decode cX2_init 29 = .ok (.newarray .int, 2) := by decide +kernel
theorem dX2_init_31 : decode cX2_init 31 = .ok (.putfield 21, 3) := by decide +kernel
theorem dX2_init_34 : decode cX2_init 34 = .ok (.return_, 1) := by decide +kernel
theorem dX2_search_0 : decode cX2_search 0 = .ok (.aload_n 0, 1) := by decide +kernel
theorem dX2_search_1 : decode cX2_search 1 = .ok (.getfield 12, 3) := by decide +kernel
theorem dX2_search_4 : decode cX2_search 4 = .ok (.invokevirtual 25, 3) := by decide +kernel
theorem dX2_search_7 : decode cX2_search 7 = .ok (.aload_n 1, 1) := by decide +kernel
theorem dX2_search_8 : decode cX2_search 8 = .ok (.aload_n 3, 1) := by decide +kernel
theorem dX2_search_9 : decode cX2_search 9 = .ok (.aload_n 0, 1) := by decide +kernel
theorem dX2_search_10 : decode cX2_search 10 = .ok (.getfield 12, 3) := by decide +kernel
theorem dX2_search_13 : decode cX2_search 13 = .ok (.iload_n 2, 1) := by decide +kernel
theorem dX2_search_14 : decode cX2_search 14 = .ok (.iconst 1, 1) := by decide +kernel
theorem dX2_search_15 : decode cX2_search 15 = .ok (.isub, 1) := by decide +kernel
theorem dX2_search_16 : decode cX2_search 16 = .ok (.invokestatic 28, 3) := by decide +kernel
theorem dX2_search_19 : decode cX2_search 19 = .ok (.ifCond .eq 10, 3) := by decide +kernel
theorem dX2_search_22 : decode cX2_search 22 = .ok (.aload_n 0, 1) := by decide +kernel
theorem dX2_search_23 : decode cX2_search 23 = .ok (.getfield 12, 3) := by decide +kernel
theorem dX2_search_26 : decode cX2_search 26 = .ok (.goto 4, 3) := by decide +kernel
theorem dX2_search_29 : decode cX2_search 29 = .ok (.aconst_null, 1) := by decide +kernel
theorem dX2_search_30 : decode cX2_search 30 = .ok (.areturn, 1) := by decide +kernel
theorem dX2_pickDown_0 : decode cX2_pickDown 0 = .ok (.iload_n 3, 1) := by decide +kernel
theorem dX2_pickDown_1 : decode cX2_pickDown 1 = .ok (.ifCond .ge 5, 3) := by decide +kernel
theorem dX2_pickDown_4 : decode cX2_pickDown 4 = .ok (.iconst 1, 1) := by decide +kernel
theorem dX2_pickDown_5 : decode cX2_pickDown 5 = .ok (.ireturn, 1) := by decide +kernel
theorem dX2_pickDown_6 : decode cX2_pickDown 6 = .ok (.iload_n 3, 1) := by decide +kernel
theorem dX2_pickDown_7 : decode cX2_pickDown 7 = .ok (.aload_n 0, 1) := by decide +kernel
theorem dX2_pickDown_8 : decode cX2_pickDown 8 = .ok (.invokevirtual 32, 3) := by decide +kernel
theorem dX2_pickDown_11 : decode cX2_pickDown 11 = .ok (.if_icmp .lt 5, 3) := by decide +kernel
theorem dX2_pickDown_14 : decode cX2_pickDown 14 = .ok (.iconst 0, 1) := by decide +kernel
theorem dX2_pickDown_15 : decode cX2_pickDown 15 = .ok (.ireturn, 1) := by decide +kernel
theorem dX2_pickDown_16 : decode cX2_pickDown 16 = .ok (.aload_n 1, 1) := by decide +kernel
theorem dX2_pickDown_17 : decode cX2_pickDown 17 = .ok (.aload_n 2, 1) := by decide +kernel
theorem dX2_pickDown_18 : decode cX2_pickDown 18 = .ok (.iload_n 3, 1) := by decide +kernel
theorem dX2_pickDown_19 : decode cX2_pickDown 19 = .ok (.invokestatic 38, 3) := by decide +kernel
theorem dX2_pickDown_22 : decode cX2_pickDown 22 = .ok (.ifCond .ne 13, 3) := by decide +kernel
theorem dX2_pickDown_25 : decode cX2_pickDown 25 = .ok (.aload_n 0, 1) := by decide +kernel
theorem dX2_pickDown_26 : decode cX2_pickDown 26 = .ok (.aload_n 1, 1) := by decide +kernel
theorem dX2_pickDown_27 : decode cX2_pickDown 27 = .ok (.aload_n 2, 1) := by decide +kernel
theorem dX2_pickDown_28 : decode cX2_pickDown 28 = .ok (.iload_n 3, 1) := by decide +kernel
theorem dX2_pickDown_29 : decode cX2_pickDown 29 = .ok (.iconst 1, 1) := by decide +kernel
theorem dX2_pickDown_30 : decode cX2_pickDown 30 = .ok (.isub, 1) := by decide +kernel
theorem dX2_pickDown_31 : decode cX2_pickDown 31 = .ok (.invokestatic 28, 3) := by decide +kernel
theorem dX2_pickDown_34 : decode cX2_pickDown 34 = .ok (.ireturn, 1) := by decide +kernel
theorem dX2_pickDown_35 : decode cX2_pickDown 35 = .ok (.aload_n 0, 1) := by decide +kernel
theorem dX2_pickDown_36 : decode cX2_pickDown 36 = .ok (.iload_n 3, 1) := by decide +kernel
theorem dX2_pickDown_37 : decode cX2_pickDown 37 = .ok (.invokevirtual 42, 3) := by decide +kernel
theorem dX2_pickDown_40 : decode cX2_pickDown 40 = .ok (.checkcast 46, 3) := by decide +kernel
theorem dX2_pickDown_43 : decode cX2_pickDown 43 = .ok (.getfield 48, 3) := by decide +kernel
theorem dX2_pickDown_46 : decode cX2_pickDown 46 = .ok (.astore 4, 2) := by decide +kernel
theorem dX2_pickDown_48 : decode cX2_pickDown 48 = .ok (.aload 4, 2) := by decide +kernel
theorem dX2_pickDown_50 : decode cX2_pickDown 50 = .ok (.invokevirtual 32, 3) := by decide +kernel
theorem dX2_pickDown_53 : decode cX2_pickDown 53 = .ok (.iconst 1, 1) := by decide +kernel
theorem dX2_pickDown_54 : decode cX2_pickDown 54 = .ok (.isub, 1) := by decide +kernel
theorem dX2_pickDown_55 : decode cX2_pickDown 55 = .ok (.istore 5, 2) := by decide +kernel
theorem dX2_pickDown_57 : decode cX2_pickDown 57 = .ok (.iload 5, 2) := by decide +kernel
theorem dX2_pickDown_59 : decode cX2_pickDown 59 = .ok (.ifCond .lt 53, 3) := by decide +kernel
theorem dX2_pickDown_62 : decode cX2_pickDown 62 = .ok (.aload 4, 2) := by decide +kernel
theorem dX2_pickDown_64 : decode cX2_pickDown 64 = .ok (.iload 5, 2) := by decide +kernel
theorem dX2_pickDown_66 : decode cX2_pickDown 66 = .ok (.invokevirtual 42, 3) := by decide +kernel
theorem dX2_pickDown_69 : decode cX2_pickDown 69 = .ok (.checkcast 52, 3) := by decide +kernel
theorem dX2_pickDown_72 : decode cX2_pickDown 72 = .ok (.astore 6, 2) := by decide +kernel
theorem dX2_pickDown_74 : decode cX2_pickDown 74 = .ok (.aload_n 1, 1) := by decide +kernel
theorem dX2_pickDown_75 : decode cX2_pickDown 75 = .ok (.aload_n 2, 1) := by decide +kernel
theorem dX2_pickDown_76 : decode cX2_pickDown 76 = .ok (.iload_n 3, 1) := by decide +kernel
theorem dX2_pickDown_77 : decode cX2_pickDown 77 = .ok (.aload 6, 2) := by decide +kernel
theorem dX2_pickDown_79 : decode cX2_pickDown 79 = .ok (.invokestatic 54, 3) := by decide +kernel
theorem dX2_pickDown_82 : decode cX2_pickDown 82 = .ok (.ifCond .eq 24, 3) := by decide +kernel
theorem dX2_pickDown_85 : decode cX2_pickDown 85 = .ok (.aload_n 2, 1) := by decide +kernel
theorem dX2_pickDown_86 : decode cX2_pickDown 86 = .ok (.iload_n 3, 1) := by decide +kernel
theorem dX2_pickDown_87 : decode cX2_pickDown 87 = .ok (.aload 6, 2) := by decide +kernel
theorem dX2_pickDown_89 : decode cX2_pickDown 89 = .ok (.invokevirtual 58, 3) := by decide +kernel
theorem dX2_pickDown_92 : decode cX2_pickDown 92 = .ok (.aload_n 0, 1) := by decide +kernel
theorem dX2_pickDown_93 : decode cX2_pickDown 93 = .ok (.aload_n 1, 1) := by decide +kernel
theorem dX2_pickDown_94 : decode cX2_pickDown 94 = .ok (.aload_n 2, 1) := by decide +kernel
theorem dX2_pickDown_95 : decode cX2_pickDown 95 = .ok (.iload_n 3, 1) := by decide +kernel
theorem dX2_pickDown_96 : decode cX2_pickDown 96 = .ok (.iconst 1, 1) := by decide +kernel
theorem dX2_pickDown_97 : decode cX2_pickDown 97 = .ok (.isub, 1) := by decide +kernel
theorem dX2_pickDown_98 : decode cX2_pickDown 98 = .ok (.invokestatic 28, 3) := by decide +kernel
theorem dX2_pickDown_101 : decode cX2_pickDown 101 = .ok (.ifCond .eq 5, 3) := by decide +kernel
theorem dX2_pickDown_104 : decode cX2_pickDown 104 = .ok (.iconst 1, 1) := by decide +kernel
theorem dX2_pickDown_105 : decode cX2_pickDown 105 = .ok (.ireturn, 1) := by decide +kernel
theorem dX2_pickDown_106 : decode cX2_pickDown 106 = .ok (.iinc 5 (-1), 3) := by decide +kernel
theorem dX2_pickDown_109 : decode cX2_pickDown 109 = .ok (.goto (-52), 3) := by decide +kernel
theorem dX2_pickDown_112 : decode cX2_pickDown 112 = .ok (.aload_n 2, 1) := by decide +kernel
theorem dX2_pickDown_113 : decode cX2_pickDown 113 = .ok (.iload_n 3, 1) := by decide +kernel
theorem dX2_pickDown_114 : decode cX2_pickDown 114 = .ok (.aconst_null, 1) := by decide +kernel
theorem dX2_pickDown_115 : decode cX2_pickDown 115 = .ok (.invokevirtual 58, 3) := by decide +kernel
theorem dX2_pickDown_118 : decode cX2_pickDown 118 = .ok (.iconst 0, 1) := by decide +kernel
theorem dX2_pickDown_119 : decode cX2_pickDown 119 = .ok (.ireturn, 1) := by decide +kernel
theorem dX2_goThroughAll_0 : decode cX2_goThroughAll 0 = .ok (.iconst 0, 1) := by decide +kernel
theorem dX2_goThroughAll_1 : decode cX2_goThroughAll 1 = .ok (.istore 4, 2) := by decide +kernel
theorem dX2_goThroughAll_3 : decode cX2_goThroughAll 3 = .ok (.aload_n 0, 1) := by decide +kernel
theorem dX2_goThroughAll_4 : decode cX2_goThroughAll 4 = .ok (.getfield 18, 3) := by decide +kernel
theorem dX2_goThroughAll_7 : decode cX2_goThroughAll 7 = .ok (.invokevirtual 25, 3) := by decide +kernel
theorem dX2_goThroughAll_10 : decode cX2_goThroughAll 10 = .ok (.aload_n 0, 1) := by decide +kernel
theorem dX2_goThroughAll_11 : decode cX2_goThroughAll 11 = .ok (.getfield 21, 3) := by decide +kernel
theorem dX2_goThroughAll_14 : decode cX2_goThroughAll 14 = .ok (.iconst 0, 1) := by decide +kernel
theorem dX2_goThroughAll_15 : decode cX2_goThroughAll 15 = .ok (.invokestatic 62, 3) := by decide +kernel
theorem dX2_goThroughAll_18 : decode cX2_goThroughAll 18 = .ok (.aload_n 1, 1) := by decide +kernel
theorem dX2_goThroughAll_19 : decode cX2_goThroughAll 19 = .ok (.iload_n 2, 1) := by decide +kernel
theorem dX2_goThroughAll_20 : decode cX2_goThroughAll 20 = .ok (.invokestatic 68, 3) := by decide +kernel
theorem dX2_goThroughAll_23 : decode cX2_goThroughAll 23 = .ok (.istore 5, 2) := by decide +kernel
theorem dX2_goThroughAll_25 : decode cX2_goThroughAll 25 = .ok (.iconst 0, 1) := by decide +kernel
theorem dX2_goThroughAll_26 : decode cX2_goThroughAll 26 = .ok (.istore 6, 2) := by decide +kernel
theorem dX2_goThroughAll_28 : decode cX2_goThroughAll 28 = .ok (.iload 6, 2) := by decide +kernel
theorem dX2_goThroughAll_30 : decode cX2_goThroughAll 30 = .ok (.iload 5, 2) := by decide +kernel
theorem dX2_goThroughAll_32 : decode cX2_goThroughAll 32 = .ok (.if_icmp .ge 40, 3) := by decide +kernel
theorem dX2_goThroughAll_35 : decode cX2_goThroughAll 35 = .ok (.aload_n 3, 1) := by decide +kernel
theorem dX2_goThroughAll_36 : decode cX2_goThroughAll 36 = .ok (.aload_n 0, 1) := by decide +kernel
theorem dX2_goThroughAll_37 : decode cX2_goThroughAll 37 = .ok (.getfield 18, 3) := by decide +kernel
theorem dX2_goThroughAll_40 : decode cX2_goThroughAll 40 = .ok (.invokestatic 72, 3) := by decide +kernel
theorem dX2_goThroughAll_43 : decode cX2_goThroughAll 43 = .ok (.ifCond .eq 17, 3) := by decide +kernel
theorem dX2_goThroughAll_46 : decode cX2_goThroughAll 46 = .ok (.aload_n 0, 1) := by decide +kernel
theorem dX2_goThroughAll_47 : decode cX2_goThroughAll 47 = .ok (.getfield 12, 3) := by decide +kernel
theorem dX2_goThroughAll_50 : decode cX2_goThroughAll 50 = .ok (.aload_n 0, 1) := by decide +kernel
theorem dX2_goThroughAll_51 : decode cX2_goThroughAll 51 = .ok (.getfield 18, 3) := by decide +kernel
theorem dX2_goThroughAll_54 : decode cX2_goThroughAll 54 = .ok (.invokevirtual 76, 3) := by decide +kernel
theorem dX2_goThroughAll_57 : decode cX2_goThroughAll 57 = .ok (.iconst 1, 1) := by decide +kernel
theorem dX2_goThroughAll_58 : decode cX2_goThroughAll 58 = .ok (.istore 4, 2) := by decide +kernel
theorem dX2_goThroughAll_60 : decode cX2_goThroughAll 60 = .ok (.aload_n 0, 1) := by decide +kernel
theorem dX2_goThroughAll_61 : decode cX2_goThroughAll 61 = .ok (.aload_n 1, 1) := by decide +kernel
theorem dX2_goThroughAll_62 : decode cX2_goThroughAll 62 = .ok (.iload_n 2, 1) := by decide +kernel
theorem dX2_goThroughAll_63 : decode cX2_goThroughAll 63 = .ok (.invokevirtual 80, 3) := by decide +kernel
theorem dX2_goThroughAll_66 : decode cX2_goThroughAll 66 = .ok (.iinc 6 1, 3) := by decide +kernel
theorem dX2_goThroughAll_69 : decode cX2_goThroughAll 69 = .ok (.goto (-41), 3) := by decide +kernel
theorem dX2_goThroughAll_72 : decode cX2_goThroughAll 72 = .ok (.iload 4, 2) := by decide +kernel
theorem dX2_goThroughAll_74 : decode cX2_goThroughAll 74 = .ok (.ifCond .eq 10, 3) := by decide +kernel
theorem dX2_goThroughAll_77 : decode cX2_goThroughAll 77 = .ok (.aload_n 0, 1) := by decide +kernel
theorem dX2_goThroughAll_78 : decode cX2_goThroughAll 78 = .ok (.getfield 12, 3) := by decide +kernel
theorem dX2_goThroughAll_81 : decode cX2_goThroughAll 81 = .ok (.goto 4, 3) := by decide +kernel
theorem dX2_goThroughAll_84 : decode cX2_goThroughAll 84 = .ok (.aconst_null, 1) := by decide +kernel
theorem dX2_goThroughAll_85 : decode cX2_goThroughAll 85 = .ok (.areturn, 1) := by decide +kernel
theorem dX2_countWays_0 : decode cX2_countWays 0 = .ok (.iconst 1, 1) := by decide +kernel
theorem dX2_countWays_1 : decode cX2_countWays 1 = .ok (.istore_n 2, 1) := by decide +kernel
theorem dX2_countWays_2 : decode cX2_countWays 2 = .ok (.iconst 0, 1) := by decide +kernel
theorem dX2_countWays_3 : decode cX2_countWays 3 = .ok (.istore_n 3, 1) := by decide +kernel
theorem dX2_countWays_4 : decode cX2_countWays 4 = .ok (.iload_n 3, 1) := by decide +kernel
theorem dX2_countWays_5 : decode cX2_countWays 5 = .ok (.iload_n 1, 1) := by decide +kernel
theorem dX2_countWays_6 : decode cX2_countWays 6 = .ok (.if_icmp .ge 36, 3) := by decide +kernel
theorem dX2_countWays_9 : decode cX2_countWays 9 = .ok (.iload_n 3, 1) := by decide +kernel
theorem dX2_countWays_10 : decode cX2_countWays 10 = .ok (.aload_n 0, 1) := by decide +kernel
theorem dX2_countWays_11 : decode cX2_countWays 11 = .ok (.invokevirtual 32, 3) := by decide +kernel
theorem dX2_countWays_14 : decode cX2_countWays 14 = .ok (.if_icmp .ge 28, 3) := by decide +kernel
theorem dX2_countWays_17 : decode cX2_countWays 17 = .ok (.iload_n 2, 1) := by decide +kernel
theorem dX2_countWays_18 : decode cX2_countWays 18 = .ok (.aload_n 0, 1) := by decide +kernel
theorem dX2_countWays_19 : decode cX2_countWays 19 = .ok (.iload_n 3, 1) := by decide +kernel
theorem dX2_countWays_20 : decode cX2_countWays 20 = .ok (.invokevirtual 42, 3) := by decide +kernel
theorem dX2_countWays_23 : decode cX2_countWays 23 = .ok (.checkcast 46, 3) := by decide +kernel
theorem dX2_countWays_26 : decode cX2_countWays 26 = .ok (.getfield 48, 3) := by decide +kernel
theorem dX2_countWays_29 : decode cX2_countWays 29 = .ok (.invokevirtual 32, 3) := by decide +kernel
theorem dX2_countWays_32 : decode cX2_countWays 32 = .ok (.iconst 1, 1) := by decide +kernel
theorem dX2_countWays_33 : decode cX2_countWays 33 = .ok (.iadd, 1) := by decide +kernel
theorem dX2_countWays_34 : decode cX2_countWays 34 = .ok (.imul, 1) := by decide +kernel
theorem dX2_countWays_35 : decode cX2_countWays 35 = .ok (.istore_n 2, 1) := by decide +kernel
theorem dX2_countWays_36 : decode cX2_countWays 36 = .ok (.iinc 3 1, 3) := by decide +kernel
theorem dX2_countWays_39 : decode cX2_countWays 39 = .ok (.goto (-35), 3) := by decide +kernel
theorem dX2_countWays_42 : decode cX2_countWays 42 = .ok (.iload_n 2, 1) := by decide +kernel
theorem dX2_countWays_43 : decode cX2_countWays 43 = .ok (.ireturn, 1) := by decide +kernel
theorem dX2_goToNextWay_0 : decode cX2_goToNextWay 0 = .ok (.iconst 0, 1) := by decide +kernel
theorem dX2_goToNextWay_1 : decode cX2_goToNextWay 1 = .ok (.istore_n 3, 1) := by decide +kernel
theorem dX2_goToNextWay_2 : decode cX2_goToNextWay 2 = .ok (.iload_n 3, 1) := by decide +kernel
theorem dX2_goToNextWay_3 : decode cX2_goToNextWay 3 = .ok (.iload_n 2, 1) := by decide +kernel
theorem dX2_goToNextWay_4 : decode cX2_goToNextWay 4 = .ok (.if_icmp .ge 107, 3) := by decide +kernel
theorem dX2_goToNextWay_7 : decode cX2_goToNextWay 7 = .ok (.iload_n 3, 1) := by decide +kernel
theorem dX2_goToNextWay_8 : decode cX2_goToNextWay 8 = .ok (.aload_n 1, 1) := by decide +kernel
theorem dX2_goToNextWay_9 : decode cX2_goToNextWay 9 = .ok (.invokevirtual 32, 3) := by decide +kernel
theorem dX2_goToNextWay_12 : decode cX2_goToNextWay 12 = .ok (.if_icmp .ge 99, 3) := by decide +kernel
theorem dX2_goToNextWay_15 : decode cX2_goToNextWay 15 = .ok (.iload_n 3, 1) := by decide +kernel
theorem dX2_goToNextWay_16 : decode cX2_goToNextWay 16 = .ok (.aload_n 0, 1) := by decide +kernel
theorem dX2_goToNextWay_17 : decode cX2_goToNextWay 17 = .ok (.getfield 21, 3) := by decide +kernel
theorem dX2_goToNextWay_20 : decode cX2_goToNextWay 20 = .ok (.arraylength, 1) := by decide +kernel
theorem dX2_goToNextWay_21 : decode cX2_goToNextWay 21 = .ok (.if_icmp .ge 90, 3) := by decide +kernel
theorem dX2_goToNextWay_24 : decode cX2_goToNextWay 24 = .ok (.aload_n 1, 1) := by decide +kernel
theorem dX2_goToNextWay_25 : decode cX2_goToNextWay 25 = .ok (.iload_n 3, 1) := by decide +kernel
theorem dX2_goToNextWay_26 : decode cX2_goToNextWay 26 = .ok (.invokevirtual 42, 3) := by decide +kernel
theorem dX2_goToNextWay_29 : decode cX2_goToNextWay 29 = .ok (.checkcast 46, 3) := by decide +kernel
theorem dX2_goToNextWay_32 : decode cX2_goToNextWay 32 = .ok (.getfield 48, 3) := by decide +kernel
theorem dX2_goToNextWay_35 : decode cX2_goToNextWay 35 = .ok (.astore 4, 2) := by decide +kernel
theorem dX2_goToNextWay_37 : decode cX2_goToNextWay 37 = .ok (.aload_n 0, 1) := by decide +kernel
theorem dX2_goToNextWay_38 : decode cX2_goToNextWay 38 = .ok (.getfield 21, 3) := by decide +kernel
theorem dX2_goToNextWay_41 : decode cX2_goToNextWay 41 = .ok (.iload_n 3, 1) := by decide +kernel
theorem dX2_goToNextWay_42 : decode cX2_goToNextWay 42 = .ok (.iaload, 1) := by decide +kernel
theorem dX2_goToNextWay_43 : decode cX2_goToNextWay 43 = .ok (.istore 5, 2) := by decide +kernel
theorem dX2_goToNextWay_45 : decode cX2_goToNextWay 45 = .ok (.iload 5, 2) := by decide +kernel
theorem dX2_goToNextWay_47 : decode cX2_goToNextWay 47 = .ok (.ifCond .lt 42, 3) := by decide +kernel
theorem dX2_goToNextWay_50 : decode cX2_goToNextWay 50 = .ok (.iload 5, 2) := by decide +kernel
theorem dX2_goToNextWay_52 : decode cX2_goToNextWay 52 = .ok (.aload 4, 2) := by decide +kernel
theorem dX2_goToNextWay_54 : decode cX2_goToNextWay 54 = .ok (.invokevirtual 32, 3) := by decide +kernel
theorem dX2_goToNextWay_57 : decode cX2_goToNextWay 57 = .ok (.if_icmp .ge 32, 3) := by decide +kernel
theorem dX2_goToNextWay_60 : decode cX2_goToNextWay 60 = .ok (.aload_n 0, 1) := by decide +kernel
theorem dX2_goToNextWay_61 : decode cX2_goToNextWay 61 = .ok (.getfield 18, 3) := by decide +kernel
theorem dX2_goToNextWay_64 : decode cX2_goToNextWay 64 = .ok (.iload_n 3, 1) := by decide +kernel
theorem dX2_goToNextWay_65 : decode cX2_goToNextWay 65 = .ok (.aload 4, 2) := by decide +kernel
theorem dX2_goToNextWay_67 : decode cX2_goToNextWay 67 = .ok (.iload 5, 2) := by decide +kernel
theorem dX2_goToNextWay_69 : decode cX2_goToNextWay 69 = .ok (.invokevirtual 42, 3) := by decide +kernel
theorem dX2_goToNextWay_72 : decode cX2_goToNextWay 72 = .ok (.checkcast 52, 3) := by decide +kernel
theorem dX2_goToNextWay_75 : decode cX2_goToNextWay 75 = .ok (.invokevirtual 58, 3) := by decide +kernel
theorem dX2_goToNextWay_78 : decode cX2_goToNextWay 78 = .ok (.aload_n 0, 1) := by decide +kernel
theorem dX2_goToNextWay_79 : decode cX2_goToNextWay 79 = .ok (.getfield 21, 3) := by decide +kernel
theorem dX2_goToNextWay_82 : decode cX2_goToNextWay 82 = .ok (.iload_n 3, 1) := by decide +kernel
theorem dX2_goToNextWay_83 : decode cX2_goToNextWay 83 = .ok (.iload 5, 2) := by decide +kernel
theorem dX2_goToNextWay_85 : decode cX2_goToNextWay 85 = .ok (.iconst 1, 1) := by decide +kernel
theorem dX2_goToNextWay_86 : decode cX2_goToNextWay 86 = .ok (.iadd, 1) := by decide +kernel
theorem dX2_goToNextWay_87 : decode cX2_goToNextWay 87 = .ok (.iastore, 1) := by decide +kernel
theorem dX2_goToNextWay_88 : decode cX2_goToNextWay 88 = .ok (.return_, 1) := by decide +kernel
theorem dX2_goToNextWay_89 : decode cX2_goToNextWay 89 = .ok (.aload_n 0, 1) := by decide +kernel
theorem dX2_goToNextWay_90 : decode cX2_goToNextWay 90 = .ok (.getfield 18, 3) := by decide +kernel
theorem dX2_goToNextWay_93 : decode cX2_goToNextWay 93 = .ok (.iload_n 3, 1) := by decide +kernel
theorem dX2_goToNextWay_94 : decode cX2_goToNextWay 94 = .ok (.aconst_null, 1) := by decide +kernel
theorem dX2_goToNextWay_95 : decode cX2_goToNextWay 95 = .ok (.invokevirtual 58, 3) := by decide +kernel
theorem dX2_goToNextWay_98 : decode cX2_goToNextWay 98 = .ok (.aload_n 0, 1) := by decide +kernel
theorem dX2_goToNextWay_99 : decode cX2_goToNextWay 99 = .ok (.getfield 21, 3) := by decide +kernel
theorem dX2_goToNextWay_102 : decode cX2_goToNextWay 102 = .ok (.iload_n 3, 1) := by decide +kernel
theorem dX2_goToNextWay_103 : decode cX2_goToNextWay 103 = .ok (.iconst 0, 1) := by decide +kernel
theorem dX2_goToNextWay_104 : decode cX2_goToNextWay 104 = .ok (.iastore, 1) := by decide +kernel
theorem dX2_goToNextWay_105 : decode cX2_goToNextWay 105 = .ok (.iinc 3 1, 3) := by decide +kernel
theorem dX2_goToNextWay_108 : decode cX2_goToNextWay 108 = .ok (.goto (-106), 3) := by decide +kernel
theorem dX2_goToNextWay_111 : decode cX2_goToNextWay 111 = .ok (.return_, 1) := by decide +kernel
theorem dX2_isChoice_0 : decode cX2_isChoice 0 = .ok (.iconst 5, 1) := by decide +kernel
theorem dX2_isChoice_1 : decode cX2_isChoice 1 = .ok (.istore_n 2, 1) := by decide +kernel
theorem dX2_isChoice_2 : decode cX2_isChoice 2 = .ok (.iload_n 2, 1) := by decide +kernel
theorem dX2_isChoice_3 : decode cX2_isChoice 3 = .ok (.ifCond .lt 51, 3) := by decide +kernel
theorem dX2_isChoice_6 : decode cX2_isChoice 6 = .ok (.aload_n 1, 1) := by decide +kernel
theorem dX2_isChoice_7 : decode cX2_isChoice 7 = .ok (.iload_n 2, 1) := by decide +kernel
theorem dX2_isChoice_8 : decode cX2_isChoice 8 = .ok (.invokevirtual 84, 3) := by decide +kernel
theorem dX2_isChoice_11 : decode cX2_isChoice 11 = .ok (.astore_n 3, 1) := by decide +kernel
theorem dX2_isChoice_12 : decode cX2_isChoice 12 = .ok (.aload_n 0, 1) := by decide +kernel
theorem dX2_isChoice_13 : decode cX2_isChoice 13 = .ok (.aload_n 1, 1) := by decide +kernel
theorem dX2_isChoice_14 : decode cX2_isChoice 14 = .ok (.iload_n 2, 1) := by decide +kernel
theorem dX2_isChoice_15 : decode cX2_isChoice 15 = .ok (.invokestatic 38, 3) := by decide +kernel
theorem dX2_isChoice_18 : decode cX2_isChoice 18 = .ok (.aload_n 3, 1) := by decide +kernel
theorem dX2_isChoice_19 : decode cX2_isChoice 19 = .ok (.ifnull 7, 3) := by decide +kernel
theorem dX2_isChoice_22 : decode cX2_isChoice 22 = .ok (.iconst 1, 1) := by decide +kernel
theorem dX2_isChoice_23 : decode cX2_isChoice 23 = .ok (.goto 4, 3) := by decide +kernel
theorem dX2_isChoice_26 : decode cX2_isChoice 26 = .ok (.iconst 0, 1) := by decide +kernel
theorem dX2_isChoice_27 : decode cX2_isChoice 27 = .ok (.if_icmp .eq 5, 3) := by decide +kernel
theorem dX2_isChoice_30 : decode cX2_isChoice 30 = .ok (.iconst 0, 1) := by decide +kernel
theorem dX2_isChoice_31 : decode cX2_isChoice 31 = .ok (.ireturn, 1) := by decide +kernel
theorem dX2_isChoice_32 : decode cX2_isChoice 32 = .ok (.aload_n 3, 1) := by decide +kernel
theorem dX2_isChoice_33 : decode cX2_isChoice 33 = .ok (.ifnull 15, 3) := by decide +kernel
theorem dX2_isChoice_36 : decode cX2_isChoice 36 = .ok (.aload_n 0, 1) := by decide +kernel
theorem dX2_isChoice_37 : decode cX2_isChoice 37 = .ok (.aload_n 1, 1) := by decide +kernel
theorem dX2_isChoice_38 : decode cX2_isChoice 38 = .ok (.iload_n 2, 1) := by decide +kernel
theorem dX2_isChoice_39 : decode cX2_isChoice 39 = .ok (.aload_n 3, 1) := by decide +kernel
theorem dX2_isChoice_40 : decode cX2_isChoice 40 = .ok (.invokestatic 54, 3) := by decide +kernel
theorem dX2_isChoice_43 : decode cX2_isChoice 43 = .ok (.ifCond .ne 5, 3) := by decide +kernel
theorem dX2_isChoice_46 : decode cX2_isChoice 46 = .ok (.iconst 0, 1) := by decide +kernel
theorem dX2_isChoice_47 : decode cX2_isChoice 47 = .ok (.ireturn, 1) := by decide +kernel
theorem dX2_isChoice_48 : decode cX2_isChoice 48 = .ok (.iinc 2 (-1), 3) := by decide +kernel
theorem dX2_isChoice_51 : decode cX2_isChoice 51 = .ok (.goto (-49), 3) := by decide +kernel
theorem dX2_isChoice_54 : decode cX2_isChoice 54 = .ok (.iconst 1, 1) := by decide +kernel
theorem dX2_isChoice_55 : decode cX2_isChoice 55 = .ok (.ireturn, 1) := by decide +kernel
theorem dX2_isReached_0 : decode cX2_isReached 0 = .ok (.aload_n 0, 1) := by decide +kernel
theorem dX2_isReached_1 : decode cX2_isReached 1 = .ok (.iload_n 2, 1) := by decide +kernel
theorem dX2_isReached_2 : decode cX2_isReached 2 = .ok (.invokevirtual 88, 3) := by decide +kernel
theorem dX2_isReached_5 : decode cX2_isReached 5 = .ok (.ifCond .eq 5, 3) := by decide +kernel
theorem dX2_isReached_8 : decode cX2_isReached 8 = .ok (.iconst 1, 1) := by decide +kernel
theorem dX2_isReached_9 : decode cX2_isReached 9 = .ok (.ireturn, 1) := by decide +kernel
theorem dX2_isReached_10 : decode cX2_isReached 10 = .ok (.iload_n 2, 1) := by decide +kernel
theorem dX2_isReached_11 : decode cX2_isReached 11 = .ok (.iconst 1, 1) := by decide +kernel
theorem dX2_isReached_12 : decode cX2_isReached 12 = .ok (.iadd, 1) := by decide +kernel
theorem dX2_isReached_13 : decode cX2_isReached 13 = .ok (.istore_n 3, 1) := by decide +kernel
theorem dX2_isReached_14 : decode cX2_isReached 14 = .ok (.iload_n 3, 1) := by decide +kernel
theorem dX2_isReached_15 : decode cX2_isReached 15 = .ok (.bipush 6, 2) := by decide +kernel
theorem dX2_isReached_17 : decode cX2_isReached 17 = .ok (.if_icmp .ge 35, 3) := by decide +kernel
theorem dX2_isReached_20 : decode cX2_isReached 20 = .ok (.aload_n 1, 1) := by decide +kernel
theorem dX2_isReached_21 : decode cX2_isReached 21 = .ok (.iload_n 3, 1) := by decide +kernel
theorem dX2_isReached_22 : decode cX2_isReached 22 = .ok (.invokevirtual 84, 3) := by decide +kernel
theorem dX2_isReached_25 : decode cX2_isReached 25 = .ok (.astore 4, 2) := by decide +kernel
theorem dX2_isReached_27 : decode cX2_isReached 27 = .ok (.aload 4, 2) := by decide +kernel
theorem dX2_isReached_29 : decode cX2_isReached 29 = .ok (.ifnull 17, 3) := by decide +kernel
theorem dX2_isReached_32 : decode cX2_isReached 32 = .ok (.aload 4, 2) := by decide +kernel
theorem dX2_isReached_34 : decode cX2_isReached 34 = .ok (.getfield 94, 3) := by decide +kernel
theorem dX2_isReached_37 : decode cX2_isReached 37 = .ok (.iload_n 2, 1) := by decide +kernel
theorem dX2_isReached_38 : decode cX2_isReached 38 = .ok (.invokevirtual 88, 3) := by decide +kernel
theorem dX2_isReached_41 : decode cX2_isReached 41 = .ok (.ifCond .eq 5, 3) := by decide +kernel
theorem dX2_isReached_44 : decode cX2_isReached 44 = .ok (.iconst 1, 1) := by decide +kernel
theorem dX2_isReached_45 : decode cX2_isReached 45 = .ok (.ireturn, 1) := by decide +kernel
theorem dX2_isReached_46 : decode cX2_isReached 46 = .ok (.iinc 3 1, 3) := by decide +kernel
theorem dX2_isReached_49 : decode cX2_isReached 49 = .ok (.goto (-35), 3) := by decide +kernel
theorem dX2_isReached_52 : decode cX2_isReached 52 = .ok (.iconst 0, 1) := by decide +kernel
theorem dX2_isReached_53 : decode cX2_isReached 53 = .ok (.ireturn, 1) := by decide +kernel
theorem dX2_isAdmitted_0 : decode cX2_isAdmitted 0 = .ok (.aload_n 3, 1) := by decide +kernel
theorem dX2_isAdmitted_1 : decode cX2_isAdmitted 1 = .ok (.getfield 98, 3) := by decide +kernel
theorem dX2_isAdmitted_4 : decode cX2_isAdmitted 4 = .ok (.ifCond .ne 15, 3) := by decide +kernel
theorem dX2_isAdmitted_7 : decode cX2_isAdmitted 7 = .ok (.aload_n 0, 1) := by decide +kernel
theorem dX2_isAdmitted_8 : decode cX2_isAdmitted 8 = .ok (.iload_n 2, 1) := by decide +kernel
theorem dX2_isAdmitted_9 : decode cX2_isAdmitted 9 = .ok (.aload_n 3, 1) := by decide +kernel
theorem dX2_isAdmitted_10 : decode cX2_isAdmitted 10 = .ok (.getfield 102, 3) := by decide +kernel
theorem dX2_isAdmitted_13 : decode cX2_isAdmitted 13 = .ok (.invokevirtual 106, 3) := by decide +kernel
theorem dX2_isAdmitted_16 : decode cX2_isAdmitted 16 = .ok (.ifCond .ne 5, 3) := by decide +kernel
theorem dX2_isAdmitted_19 : decode cX2_isAdmitted 19 = .ok (.iconst 0, 1) := by decide +kernel
theorem dX2_isAdmitted_20 : decode cX2_isAdmitted 20 = .ok (.ireturn, 1) := by decide +kernel
theorem dX2_isAdmitted_21 : decode cX2_isAdmitted 21 = .ok (.iload_n 2, 1) := by decide +kernel
theorem dX2_isAdmitted_22 : decode cX2_isAdmitted 22 = .ok (.iconst 1, 1) := by decide +kernel
theorem dX2_isAdmitted_23 : decode cX2_isAdmitted 23 = .ok (.iadd, 1) := by decide +kernel
theorem dX2_isAdmitted_24 : decode cX2_isAdmitted 24 = .ok (.istore 4, 2) := by decide +kernel
theorem dX2_isAdmitted_26 : decode cX2_isAdmitted 26 = .ok (.iload 4, 2) := by decide +kernel
theorem dX2_isAdmitted_28 : decode cX2_isAdmitted 28 = .ok (.bipush 6, 2) := by decide +kernel
theorem dX2_isAdmitted_30 : decode cX2_isAdmitted 30 = .ok (.if_icmp .ge 40, 3) := by decide +kernel
theorem dX2_isAdmitted_33 : decode cX2_isAdmitted 33 = .ok (.aload_n 1, 1) := by decide +kernel
theorem dX2_isAdmitted_34 : decode cX2_isAdmitted 34 = .ok (.iload 4, 2) := by decide +kernel
theorem dX2_isAdmitted_36 : decode cX2_isAdmitted 36 = .ok (.invokevirtual 84, 3) := by decide +kernel
theorem dX2_isAdmitted_39 : decode cX2_isAdmitted 39 = .ok (.astore 5, 2) := by decide +kernel
theorem dX2_isAdmitted_41 : decode cX2_isAdmitted 41 = .ok (.aload 5, 2) := by decide +kernel
theorem dX2_isAdmitted_43 : decode cX2_isAdmitted 43 = .ok (.ifnull 21, 3) := by decide +kernel
theorem dX2_isAdmitted_46 : decode cX2_isAdmitted 46 = .ok (.aload 5, 2) := by decide +kernel
theorem dX2_isAdmitted_48 : decode cX2_isAdmitted 48 = .ok (.getfield 94, 3) := by decide +kernel
theorem dX2_isAdmitted_51 : decode cX2_isAdmitted 51 = .ok (.iload_n 2, 1) := by decide +kernel
theorem dX2_isAdmitted_52 : decode cX2_isAdmitted 52 = .ok (.aload_n 3, 1) := by decide +kernel
theorem dX2_isAdmitted_53 : decode cX2_isAdmitted 53 = .ok (.getfield 102, 3) := by decide +kernel
theorem dX2_isAdmitted_56 : decode cX2_isAdmitted 56 = .ok (.invokevirtual 106, 3) := by decide +kernel
theorem dX2_isAdmitted_59 : decode cX2_isAdmitted 59 = .ok (.ifCond .ne 5, 3) := by decide +kernel
theorem dX2_isAdmitted_62 : decode cX2_isAdmitted 62 = .ok (.iconst 0, 1) := by decide +kernel
theorem dX2_isAdmitted_63 : decode cX2_isAdmitted 63 = .ok (.ireturn, 1) := by decide +kernel
theorem dX2_isAdmitted_64 : decode cX2_isAdmitted 64 = .ok (.iinc 4 1, 3) := by decide +kernel
theorem dX2_isAdmitted_67 : decode cX2_isAdmitted 67 = .ok (.goto (-41), 3) := by decide +kernel
theorem dX2_isAdmitted_70 : decode cX2_isAdmitted 70 = .ok (.iconst 1, 1) := by decide +kernel
theorem dX2_isAdmitted_71 : decode cX2_isAdmitted 71 = .ok (.ireturn, 1) := by decide +kernel
theorem dX3_init_0 : decode cX3_init 0 = .ok (.aload_n 0, 1) := by decide +kernel
theorem dX3_init_1 : decode cX3_init 1 = .ok (.invokespecial 3, 3) := by decide +kernel
theorem dX3_init_4 : decode cX3_init 4 = .ok (.aload_n 0, 1) := by decide +kernel
theorem dX3_init_5 : decode cX3_init 5 = .ok (.bipush 6, 2) := by decide +kernel
theorem dX3_init_7 : decode cX3_init 7 = .ok (.newarray .int, 2) := by decide +kernel
theorem dX3_init_9 : decode cX3_init 9 = .ok (.putfield 9, 3) := by decide +kernel
theorem dX3_init_12 : decode cX3_init 12 = .ok (.aload_n 0, 1) := by decide +kernel
theorem dX3_init_13 : decode cX3_init 13 = .ok (.bipush 6, 2) := by decide +kernel
theorem dX3_init_15 : decode cX3_init 15 = .ok (.newarray .int, 2) := by decide +kernel
theorem dX3_init_17 : decode cX3_init 17 = .ok (.putfield 15, 3) := by decide +kernel
theorem dX3_init_20 : decode cX3_init 20 = .ok (.return_, 1) := by decide +kernel
theorem dX3_has_0 : decode cX3_has 0 = .ok (.iload_n 1, 1) := by decide +kernel
theorem dX3_has_1 : decode cX3_has 1 = .ok (.invokestatic 18, 3) := by decide +kernel
theorem dX3_has_4 : decode cX3_has 4 = .ok (.ifCond .eq 16, 3) := by decide +kernel
theorem dX3_has_7 : decode cX3_has 7 = .ok (.aload_n 0, 1) := by decide +kernel
theorem dX3_has_8 : decode cX3_has 8 = .ok (.getfield 15, 3) := by decide +kernel
theorem dX3_has_11 : decode cX3_has 11 = .ok (.iload_n 1, 1) := by decide +kernel
theorem dX3_has_12 : decode cX3_has 12 = .ok (.iaload, 1) := by decide +kernel
theorem dX3_has_13 : decode cX3_has 13 = .ok (.ifCond .eq 7, 3) := by decide +kernel
theorem dX3_has_16 : decode cX3_has 16 = .ok (.iconst 1, 1) := by decide +kernel
theorem dX3_has_17 : decode cX3_has 17 = .ok (.goto 4, 3) := by decide +kernel
theorem dX3_has_20 : decode cX3_has 20 = .ok (.iconst 0, 1) := by decide +kernel
theorem dX3_has_21 : decode cX3_has 21 = .ok (.ireturn, 1) := by decide +kernel
theorem dX3_admits_0 : decode cX3_admits 0 = .ok (.aload_n 0, 1) := by decide +kernel
theorem dX3_admits_1 : decode cX3_admits 1 = .ok (.iload_n 1, 1) := by decide +kernel
theorem dX3_admits_2 : decode cX3_admits 2 = .ok (.invokevirtual 22, 3) := by decide +kernel
theorem dX3_admits_5 : decode cX3_admits 5 = .ok (.ifCond .eq 22, 3) := by decide +kernel
theorem dX3_admits_8 : decode cX3_admits 8 = .ok (.iload_n 2, 1) := by decide +kernel
theorem dX3_admits_9 : decode cX3_admits 9 = .ok (.aload_n 0, 1) := by decide +kernel
theorem dX3_admits_10 : decode cX3_admits 10 = .ok (.getfield 9, 3) := by decide +kernel
theorem dX3_admits_13 : decode cX3_admits 13 = .ok (.iload_n 1, 1) := by decide +kernel
theorem dX3_admits_14 : decode cX3_admits 14 = .ok (.iaload, 1) := by decide +kernel
theorem dX3_admits_15 : decode cX3_admits 15 = .ok (.aload_n 0, 1) := by decide +kernel
theorem dX3_admits_16 : decode cX3_admits 16 = .ok (.getfield 15, 3) := by decide +kernel
theorem dX3_admits_19 : decode cX3_admits 19 = .ok (.iload_n 1, 1) := by decide +kernel
theorem dX3_admits_20 : decode cX3_admits 20 = .ok (.iaload, 1) := by decide +kernel
theorem dX3_admits_21 : decode cX3_admits 21 = .ok (.invokestatic 25, 3) := by decide +kernel
theorem dX3_admits_24 : decode cX3_admits 24 = .ok (.ifCond .eq 7, 3) := by decide +kernel
theorem dX3_admits_27 : decode cX3_admits 27 = .ok (.iconst 1, 1) := by decide +kernel
theorem dX3_admits_28 : decode cX3_admits 28 = .ok (.goto 4, 3) := by decide +kernel
theorem dX3_admits_31 : decode cX3_admits 31 = .ok (.iconst 0, 1) := by decide +kernel
theorem dX3_admits_32 : decode cX3_admits 32 = .ok (.ireturn, 1) := by decide +kernel
theorem dX3_put_0 : decode cX3_put 0 = .ok (.iload_n 1, 1) := by decide +kernel
theorem dX3_put_1 : decode cX3_put 1 = .ok (.invokestatic 18, 3) := by decide +kernel
theorem dX3_put_4 : decode cX3_put 4 = .ok (.ifCond .eq 17, 3) := by decide +kernel
theorem dX3_put_7 : decode cX3_put 7 = .ok (.aload_n 0, 1) := by decide +kernel
theorem dX3_put_8 : decode cX3_put 8 = .ok (.getfield 9, 3) := by decide +kernel
theorem dX3_put_11 : decode cX3_put 11 = .ok (.iload_n 1, 1) := by decide +kernel
theorem dX3_put_12 : decode cX3_put 12 = .ok (.iload_n 2, 1) := by decide +kernel
theorem dX3_put_13 : decode cX3_put 13 = .ok (.iastore, 1) := by decide +kernel
theorem dX3_put_14 : decode cX3_put 14 = .ok (.aload_n 0, 1) := by decide +kernel
theorem dX3_put_15 : decode cX3_put 15 = .ok (.getfield 15, 3) := by decide +kernel
theorem dX3_put_18 : decode cX3_put 18 = .ok (.iload_n 1, 1) := by decide +kernel
theorem dX3_put_19 : decode cX3_put 19 = .ok (.iload_n 3, 1) := by decide +kernel
theorem dX3_put_20 : decode cX3_put 20 = .ok (.iastore, 1) := by decide +kernel
theorem dX3_put_21 : decode cX3_put 21 = .ok (.return_, 1) := by decide +kernel
theorem dX3_drop_0 : decode cX3_drop 0 = .ok (.aload_n 0, 1) := by decide +kernel
theorem dX3_drop_1 : decode cX3_drop 1 = .ok (.iload_n 1, 1) := by decide +kernel
theorem dX3_drop_2 : decode cX3_drop 2 = .ok (.iconst 0, 1) := by decide +kernel
theorem dX3_drop_3 : decode cX3_drop 3 = .ok (.iconst 0, 1) := by decide +kernel
theorem dX3_drop_4 : decode cX3_drop 4 = .ok (.invokevirtual 29, 3) := by decide +kernel
theorem dX3_drop_7 : decode cX3_drop 7 = .ok (.return_, 1) := by decide +kernel
theorem dX3_count_0 : decode cX3_count 0 = .ok (.iconst 0, 1) := by decide +kernel
theorem dX3_count_1 : decode cX3_count 1 = .ok (.istore_n 1, 1) := by decide +kernel
theorem dX3_count_2 : decode cX3_count 2 = .ok (.iconst 0, 1) := by decide +kernel
theorem dX3_count_3 : decode cX3_count 3 = .ok (.istore_n 2, 1) := by decide +kernel
theorem dX3_count_4 : decode cX3_count 4 = .ok (.iload_n 2, 1) := by decide +kernel
theorem dX3_count_5 : decode cX3_count 5 = .ok (.bipush 6, 2) := by decide +kernel
theorem dX3_count_7 : decode cX3_count 7 = .ok (.if_icmp .ge 25, 3) := by decide +kernel
theorem dX3_count_10 : decode cX3_count 10 = .ok (.iload_n 1, 1) := by decide +kernel
theorem dX3_count_11 : decode cX3_count 11 = .ok (.aload_n 0, 1) := by decide +kernel
theorem dX3_count_12 : decode cX3_count 12 = .ok (.iload_n 2, 1) := by decide +kernel
theorem dX3_count_13 : decode cX3_count 13 = .ok (.invokevirtual 22, 3) := by decide +kernel
theorem dX3_count_16 : decode cX3_count 16 = .ok (.ifCond .eq 7, 3) := by decide +kernel
theorem dX3_count_19 : decode cX3_count 19 = .ok (.iconst 1, 1) := by decide +kernel
theorem dX3_count_20 : decode cX3_count 20 = .ok (.goto 4, 3) := by decide +kernel
theorem dX3_count_23 : decode cX3_count 23 = .ok (.iconst 0, 1) := by decide +kernel
theorem dX3_count_24 : decode cX3_count 24 = .ok (.iadd, 1) := by decide +kernel
theorem dX3_count_25 : decode cX3_count 25 = .ok (.istore_n 1, 1) := by decide +kernel
theorem dX3_count_26 : decode cX3_count 26 = .ok (.iinc 2 1, 3) := by decide +kernel
theorem dX3_count_29 : decode cX3_count 29 = .ok (.goto (-25), 3) := by decide +kernel
theorem dX3_count_32 : decode cX3_count 32 = .ok (.iload_n 1, 1) := by decide +kernel
theorem dX3_count_33 : decode cX3_count 33 = .ok (.ireturn, 1) := by decide +kernel
theorem dX3_sameAs_0 : decode cX3_sameAs 0 = .ok (.iconst 0, 1) := by decide +kernel
theorem dX3_sameAs_1 : decode cX3_sameAs 1 = .ok (.istore_n 2, 1) := by decide +kernel
theorem dX3_sameAs_2 : decode cX3_sameAs 2 = .ok (.iload_n 2, 1) := by decide +kernel
theorem dX3_sameAs_3 : decode cX3_sameAs 3 = .ok (.bipush 6, 2) := by decide +kernel
theorem dX3_sameAs_5 : decode cX3_sameAs 5 = .ok (.if_icmp .ge 41, 3) := by decide +kernel
theorem dX3_sameAs_8 : decode cX3_sameAs 8 = .ok (.aload_n 0, 1) := by decide +kernel
theorem dX3_sameAs_9 : decode cX3_sameAs 9 = .ok (.getfield 9, 3) := by decide +kernel
theorem dX3_sameAs_12 : decode cX3_sameAs 12 = .ok (.iload_n 2, 1) := by decide +kernel
theorem dX3_sameAs_13 : decode cX3_sameAs 13 = .ok (.iaload, 1) := by decide +kernel
theorem dX3_sameAs_14 : decode cX3_sameAs 14 = .ok (.aload_n 1, 1) := by decide +kernel
theorem dX3_sameAs_15 : decode cX3_sameAs 15 = .ok (.getfield 9, 3) := by decide +kernel
theorem dX3_sameAs_18 : decode cX3_sameAs 18 = .ok (.iload_n 2, 1) := by decide +kernel
theorem dX3_sameAs_19 : decode cX3_sameAs 19 = .ok (.iaload, 1) := by decide +kernel
theorem dX3_sameAs_20 : decode cX3_sameAs 20 = .ok (.if_icmp .ne 18, 3) := by decide +kernel
theorem dX3_sameAs_23 : decode cX3_sameAs 23 = .ok (.aload_n 0, 1) := by decide +kernel
theorem dX3_sameAs_24 : decode cX3_sameAs 24 = .ok (.getfield 15, 3) := by decide +kernel
theorem dX3_sameAs_27 : decode cX3_sameAs 27 = .ok (.iload_n 2, 1) := by decide +kernel
theorem dX3_sameAs_28 : decode cX3_sameAs 28 = .ok (.iaload, 1) := by decide +kernel
theorem dX3_sameAs_29 : decode cX3_sameAs 29 = .ok (.aload_n 1, 1) := by decide +kernel
theorem dX3_sameAs_30 : decode cX3_sameAs 30 = .ok (.getfield 15, 3) := by decide +kernel
theorem dX3_sameAs_33 : decode cX3_sameAs 33 = .ok (.iload_n 2, 1) := by decide +kernel
theorem dX3_sameAs_34 : decode cX3_sameAs 34 = .ok (.iaload, 1) := by decide +kernel
theorem dX3_sameAs_35 : decode cX3_sameAs 35 = .ok (.if_icmp .eq 5, 3) := by decide +kernel
theorem dX3_sameAs_38 : decode cX3_sameAs 38 = .ok (.iconst 0, 1) := by decide +kernel
theorem dX3_sameAs_39 : decode cX3_sameAs 39 = .ok (.ireturn, 1) := by decide +kernel
theorem dX3_sameAs_40 : decode cX3_sameAs 40 = .ok (.iinc 2 1, 3) := by decide +kernel
theorem dX3_sameAs_43 : decode cX3_sameAs 43 = .ok (.goto (-41), 3) := by decide +kernel
theorem dX3_sameAs_46 : decode cX3_sameAs 46 = .ok (.iconst 1, 1) := by decide +kernel
theorem dX3_sameAs_47 : decode cX3_sameAs 47 = .ok (.ireturn, 1) := by decide +kernel
theorem dX3_copyFrom_0 : decode cX3_copyFrom 0 = .ok (.iconst 0, 1) := by decide +kernel
theorem dX3_copyFrom_1 : decode cX3_copyFrom 1 = .ok (.istore_n 2, 1) := by decide +kernel
theorem dX3_copyFrom_2 : decode cX3_copyFrom 2 = .ok (.iload_n 2, 1) := by decide +kernel
theorem dX3_copyFrom_3 : decode cX3_copyFrom 3 = .ok (.bipush 6, 2) := by decide +kernel
theorem dX3_copyFrom_5 : decode cX3_copyFrom 5 = .ok (.if_icmp .ge 26, 3) := by decide +kernel
theorem dX3_copyFrom_8 : decode cX3_copyFrom 8 = .ok (.aload_n 0, 1) := by decide +kernel
theorem dX3_copyFrom_9 : decode cX3_copyFrom 9 = .ok (.iload_n 2, 1) := by decide +kernel
theorem dX3_copyFrom_10 : decode cX3_copyFrom 10 = .ok (.aload_n 1, 1) := by decide +kernel
theorem dX3_copyFrom_11 : decode cX3_copyFrom 11 = .ok (.getfield 9, 3) := by decide +kernel
theorem dX3_copyFrom_14 : decode cX3_copyFrom 14 = .ok (.iload_n 2, 1) := by decide +kernel
theorem dX3_copyFrom_15 : decode cX3_copyFrom 15 = .ok (.iaload, 1) := by decide +kernel
theorem dX3_copyFrom_16 : decode cX3_copyFrom 16 = .ok (.aload_n 1, 1) := by decide +kernel
theorem dX3_copyFrom_17 : decode cX3_copyFrom 17 = .ok (.getfield 15, 3) := by decide +kernel
theorem dX3_copyFrom_20 : decode cX3_copyFrom 20 = .ok (.iload_n 2, 1) := by decide +kernel
theorem dX3_copyFrom_21 : decode cX3_copyFrom 21 = .ok (.iaload, 1) := by decide +kernel
theorem dX3_copyFrom_22 : decode cX3_copyFrom 22 = .ok (.invokevirtual 29, 3) := by decide +kernel
theorem dX3_copyFrom_25 : decode cX3_copyFrom 25 = .ok (.iinc 2 1, 3) := by decide +kernel
theorem dX3_copyFrom_28 : decode cX3_copyFrom 28 = .ok (.goto (-26), 3) := by decide +kernel
theorem dX3_copyFrom_31 : decode cX3_copyFrom 31 = .ok (.return_, 1) := by decide +kernel
theorem dX4_init_0 : decode cX4_init 0 = .ok (.aload_n 0, 1) := by decide +kernel
theorem dX4_init_1 : decode cX4_init 1 = .ok (.invokespecial 3, 3) := by decide +kernel
theorem dX4_init_4 : decode cX4_init 4 = .ok (.aload_n 0, 1) := by decide +kernel
theorem dX4_init_5 : decode cX4_init 5 = .ok (.iload_n 1, 1) := by decide +kernel
theorem dX4_init_6 : decode cX4_init 6 = .ok (.putfield 9, 3) := by decide +kernel
theorem dX4_init_9 : decode cX4_init 9 = .ok (.aload_n 0, 1) := by decide +kernel
theorem dX4_init_10 : decode cX4_init 10 = .ok (.new 15, 3) := by decide +kernel
theorem dX4_init_13 : decode cX4_init 13 = .ok (.dup, 1) := by decide +kernel
theorem dX4_init_14 : decode cX4_init 14 = .ok (.invokespecial 17, 3) := by decide +kernel
theorem dX4_init_17 : decode cX4_init 17 = .ok (.putfield 18, 3) := by decide +kernel
theorem dX4_init_20 : decode cX4_init 20 = .ok (.aload_n 0, 1) := by decide +kernel
theorem dX4_init_21 : decode cX4_init 21 = .ok (.new 22, 3) := by decide +kernel
theorem dX4_init_24 : decode cX4_init 24 = .ok (.dup, 1) := by decide +kernel
theorem dX4_init_25 : decode cX4_init 25 = .ok (.invokespecial 24, 3) := by decide +kernel
theorem dX4_init_28 : decode cX4_init 28 = .ok (.putfield 25, 3) := by decide +kernel
theorem dX4_init_31 : decode cX4_init 31 = .ok (.aload_n 0, 1) := by decide +kernel
theorem dX4_init_32 : decode cX4_init 32 = .ok (.new 29, 3) := by decide +kernel
theorem dX4_init_35 : decode cX4_init 35 = .ok (.dup, 1) := by decide +kernel
theorem dX4_init_36 : decode cX4_init 36 = .ok (.invokespecial 31, 3) := by decide +kernel
theorem dX4_init_39 : decode cX4_init 39 = .ok (.putfield 32, 3) := by decide +kernel
theorem dX4_init_42 : decode cX4_init 42 = .ok (.aload_n 0, 1) := by decide +kernel
theorem dX4_init_43 : decode cX4_init 43 = .ok (.new 36, 3) := by decide +kernel
theorem dX4_init_46 : decode cX4_init 46 = .ok (.dup, 1) := by decide +kernel
theorem dX4_init_47 : decode cX4_init 47 = .ok (.invokespecial 38, 3) := by decide +kernel
theorem dX4_init_50 : decode cX4_init 50 = .ok (.putfield 39, 3) := by decide +kernel
theorem dX4_init_53 : decode cX4_init 53 = .ok (.return_, 1) := by decide +kernel
theorem dX4_isPassedWith_0 : decode cX4_isPassedWith 0 = .ok (.aload_n 1, 1) := by decide +kernel
theorem dX4_isPassedWith_1 : decode cX4_isPassedWith 1 = .ok (.ifnull 48, 3) := by decide +kernel
theorem dX4_isPassedWith_4 : decode cX4_isPassedWith 4 = .ok (.aload_n 0, 1) := by decide +kernel
theorem dX4_isPassedWith_5 : decode cX4_isPassedWith 5 = .ok (.getfield 32, 3) := by decide +kernel
theorem dX4_isPassedWith_8 : decode cX4_isPassedWith 8 = .ok (.getfield 43, 3) := by decide +kernel
theorem dX4_isPassedWith_11 : decode cX4_isPassedWith 11 = .ok (.ifCond .eq 38, 3) := by decide +kernel
theorem dX4_isPassedWith_14 : decode cX4_isPassedWith 14 = .ok (.aload_n 0, 1) := by decide +kernel
theorem dX4_isPassedWith_15 : decode cX4_isPassedWith 15 = .ok (.getfield 32, 3) := by decide +kernel
theorem dX4_isPassedWith_18 : decode cX4_isPassedWith 18 = .ok (.getfield 47, 3) := by decide +kernel
theorem dX4_isPassedWith_21 : decode cX4_isPassedWith 21 = .ok (.aload_n 0, 1) := by decide +kernel
theorem dX4_isPassedWith_22 : decode cX4_isPassedWith 22 = .ok (.getfield 18, 3) := by decide +kernel
theorem dX4_isPassedWith_25 : decode cX4_isPassedWith 25 = .ok (.invokevirtual 48, 3) := by decide +kernel
theorem dX4_isPassedWith_28 : decode cX4_isPassedWith 28 = .ok (.ifCond .eq 21, 3) := by decide +kernel
theorem dX4_isPassedWith_31 : decode cX4_isPassedWith 31 = .ok (.aload_n 0, 1) := by decide +kernel
theorem dX4_isPassedWith_32 : decode cX4_isPassedWith 32 = .ok (.getfield 32, 3) := by decide +kernel
theorem dX4_isPassedWith_35 : decode cX4_isPassedWith 35 = .ok (.getfield 52, 3) := by decide +kernel
theorem dX4_isPassedWith_38 : decode cX4_isPassedWith 38 = .ok (.aload_n 1, 1) := by decide +kernel
theorem dX4_isPassedWith_39 : decode cX4_isPassedWith 39 = .ok (.invokevirtual 56, 3) := by decide +kernel
theorem dX4_isPassedWith_42 : decode cX4_isPassedWith 42 = .ok (.ifCond .ne 7, 3) := by decide +kernel
theorem dX4_isPassedWith_45 : decode cX4_isPassedWith 45 = .ok (.iconst 1, 1) := by decide +kernel
theorem dX4_isPassedWith_46 : decode cX4_isPassedWith 46 = .ok (.goto 4, 3) := by decide +kernel
theorem dX4_isPassedWith_49 : decode cX4_isPassedWith 49 = .ok (.iconst 0, 1) := by decide +kernel
theorem dX4_isPassedWith_50 : decode cX4_isPassedWith 50 = .ok (.ireturn, 1) := by decide +kernel
theorem dX4_versionAhead_0 : decode cX4_versionAhead 0 = .ok (.aload_n 0, 1) := by decide +kernel
theorem dX4_versionAhead_1 : decode cX4_versionAhead 1 = .ok (.getfield 39, 3) := by decide +kernel
theorem dX4_versionAhead_4 : decode cX4_versionAhead 4 = .ok (.invokevirtual 62, 3) := by decide +kernel
theorem dX4_versionAhead_7 : decode cX4_versionAhead 7 = .ok (.ifCond .eq 6, 3) := by decide +kernel
theorem dX4_versionAhead_10 : decode cX4_versionAhead 10 = .ok (.bipush 100, 2) := by decide +kernel
theorem dX4_versionAhead_12 : decode cX4_versionAhead 12 = .ok (.ireturn, 1) := by decide +kernel
theorem dX4_versionAhead_13 : decode cX4_versionAhead 13 = .ok (.aload_n 0, 1) := by decide +kernel
theorem dX4_versionAhead_14 : decode cX4_versionAhead 14 = .ok (.getfield 39, 3) := by decide +kernel
theorem dX4_versionAhead_17 : decode cX4_versionAhead 17 = .ok (.aload_n 0, 1) := by decide +kernel
theorem dX4_versionAhead_18 : decode cX4_versionAhead 18 = .ok (.getfield 39, 3) := by decide +kernel
theorem dX4_versionAhead_21 : decode cX4_versionAhead 21 = .ok (.invokevirtual 66, 3) := by decide +kernel
theorem dX4_versionAhead_24 : decode cX4_versionAhead 24 = .ok (.iconst 1, 1) := by decide +kernel
theorem dX4_versionAhead_25 : decode cX4_versionAhead 25 = .ok (.isub, 1) := by decide +kernel
theorem dX4_versionAhead_26 : decode cX4_versionAhead 26 = .ok (.invokevirtual 70, 3) := by decide +kernel
theorem dX4_versionAhead_29 : decode cX4_versionAhead 29 = .ok (.checkcast 74, 3) := by decide +kernel
theorem dX4_versionAhead_32 : decode cX4_versionAhead 32 = .ok (.astore_n 1, 1) := by decide +kernel
theorem dX4_versionAhead_33 : decode cX4_versionAhead 33 = .ok (.aload_n 1, 1) := by decide +kernel
theorem dX4_versionAhead_34 : decode cX4_versionAhead 34 = .ok (.getfield 76, 3) := by decide +kernel
theorem dX4_versionAhead_37 : decode cX4_versionAhead 37 = .ok (.aload_n 0, 1) := by decide +kernel
theorem dX4_versionAhead_38 : decode cX4_versionAhead 38 = .ok (.getfield 18, 3) := by decide +kernel
theorem dX4_versionAhead_41 : decode cX4_versionAhead 41 = .ok (.getfield 79, 3) := by decide +kernel
theorem dX4_versionAhead_44 : decode cX4_versionAhead 44 = .ok (.if_icmp .ne 10, 3) := by decide +kernel
theorem dX4_versionAhead_47 : decode cX4_versionAhead 47 = .ok (.aload_n 1, 1) := by decide +kernel
theorem dX4_versionAhead_48 : decode cX4_versionAhead 48 = .ok (.getfield 80, 3) := by decide +kernel
theorem dX4_versionAhead_51 : decode cX4_versionAhead 51 = .ok (.iconst 1, 1) := by decide +kernel
theorem dX4_versionAhead_52 : decode cX4_versionAhead 52 = .ok (.iadd, 1) := by decide +kernel
theorem dX4_versionAhead_53 : decode cX4_versionAhead 53 = .ok (.ireturn, 1) := by decide +kernel
theorem dX4_versionAhead_54 : decode cX4_versionAhead 54 = .ok (.aload_n 1, 1) := by decide +kernel
theorem dX4_versionAhead_55 : decode cX4_versionAhead 55 = .ok (.getfield 80, 3) := by decide +kernel
theorem dX4_versionAhead_58 : decode cX4_versionAhead 58 = .ok (.bipush 100, 2) := by decide +kernel
theorem dX4_versionAhead_60 : decode cX4_versionAhead 60 = .ok (.idiv, 1) := by decide +kernel
theorem dX4_versionAhead_61 : decode cX4_versionAhead 61 = .ok (.iconst 1, 1) := by decide +kernel
theorem dX4_versionAhead_62 : decode cX4_versionAhead 62 = .ok (.iadd, 1) := by decide +kernel
theorem dX4_versionAhead_63 : decode cX4_versionAhead 63 = .ok (.bipush 100, 2) := by decide +kernel
theorem dX4_versionAhead_65 : decode cX4_versionAhead 65 = .ok (.imul, 1) := by decide +kernel
theorem dX4_versionAhead_66 : decode cX4_versionAhead 66 = .ok (.ireturn, 1) := by decide +kernel
theorem dX4_releaseOf_0 : decode cX4_releaseOf 0 = .ok (.iconst 0, 1) := by decide +kernel
theorem dX4_releaseOf_1 : decode cX4_releaseOf 1 = .ok (.istore_n 2, 1) := by decide +kernel
theorem dX4_releaseOf_2 : decode cX4_releaseOf 2 = .ok (.iload_n 2, 1) := by decide +kernel
theorem dX4_releaseOf_3 : decode cX4_releaseOf 3 = .ok (.aload_n 0, 1) := by decide +kernel
theorem dX4_releaseOf_4 : decode cX4_releaseOf 4 = .ok (.getfield 39, 3) := by decide +kernel
theorem dX4_releaseOf_7 : decode cX4_releaseOf 7 = .ok (.invokevirtual 66, 3) := by decide +kernel
theorem dX4_releaseOf_10 : decode cX4_releaseOf 10 = .ok (.if_icmp .ge 31, 3) := by decide +kernel
theorem dX4_releaseOf_13 : decode cX4_releaseOf 13 = .ok (.aload_n 0, 1) := by decide +kernel
theorem dX4_releaseOf_14 : decode cX4_releaseOf 14 = .ok (.getfield 39, 3) := by decide +kernel
theorem dX4_releaseOf_17 : decode cX4_releaseOf 17 = .ok (.iload_n 2, 1) := by decide +kernel
theorem dX4_releaseOf_18 : decode cX4_releaseOf 18 = .ok (.invokevirtual 70, 3) := by decide +kernel
theorem dX4_releaseOf_21 : decode cX4_releaseOf 21 = .ok (.checkcast 74, 3) := by decide +kernel
theorem dX4_releaseOf_24 : decode cX4_releaseOf 24 = .ok (.astore_n 3, 1) := by decide +kernel
theorem dX4_releaseOf_25 : decode cX4_releaseOf 25 = .ok (.aload_n 3, 1) := by decide +kernel
theorem dX4_releaseOf_26 : decode cX4_releaseOf 26 = .ok (.getfield 80, 3) := by decide +kernel
theorem dX4_releaseOf_29 : decode cX4_releaseOf 29 = .ok (.iload_n 1, 1) := by decide +kernel
theorem dX4_releaseOf_30 : decode cX4_releaseOf 30 = .ok (.if_icmp .ne 5, 3) := by decide +kernel
theorem dX4_releaseOf_33 : decode cX4_releaseOf 33 = .ok (.aload_n 3, 1) := by decide +kernel
theorem dX4_releaseOf_34 : decode cX4_releaseOf 34 = .ok (.areturn, 1) := by decide +kernel
theorem dX4_releaseOf_35 : decode cX4_releaseOf 35 = .ok (.iinc 2 1, 3) := by decide +kernel
theorem dX4_releaseOf_38 : decode cX4_releaseOf 38 = .ok (.goto (-36), 3) := by decide +kernel
theorem dX4_releaseOf_41 : decode cX4_releaseOf 41 = .ok (.aconst_null, 1) := by decide +kernel
theorem dX4_releaseOf_42 : decode cX4_releaseOf 42 = .ok (.areturn, 1) := by decide +kernel
theorem dX5_init_0 : decode cX5_init 0 = .ok (.aload_n 0, 1) := by decide +kernel
theorem dX5_init_1 : decode cX5_init 1 = .ok (.invokespecial 1, 3) := by decide +kernel
theorem dX5_init_4 : decode cX5_init 4 = .ok (.aload_n 0, 1) := by decide +kernel
theorem dX5_init_5 : decode cX5_init 5 = .ok (.iload_n 1, 1) := by decide +kernel
theorem dX5_init_6 : decode cX5_init 6 = .ok (.putfield 7, 3) := by decide +kernel
theorem dX5_init_9 : decode cX5_init 9 = .ok (.aload_n 0, 1) := by decide +kernel
theorem dX5_init_10 : decode cX5_init 10 = .ok (.aload_n 2, 1) := by decide +kernel
theorem dX5_init_11 : decode cX5_init 11 = .ok (.getfield 13, 3) := by decide +kernel
theorem dX5_init_14 : decode cX5_init 14 = .ok (.putfield 18, 3) := by decide +kernel
theorem dX5_init_17 : decode cX5_init 17 = .ok (.aload_n 0, 1) := by decide +kernel
theorem dX5_init_18 : decode cX5_init 18 = .ok (.new 19, 3) := by decide +kernel
theorem dX5_init_21 : decode cX5_init 21 = .ok (.dup, 1) := by decide +kernel
theorem dX5_init_22 : decode cX5_init 22 = .ok (.invokespecial 21, 3) := by decide +kernel
theorem dX5_init_25 : decode cX5_init 25 = .ok (.putfield 22, 3) := by decide +kernel
theorem dX5_init_28 : decode cX5_init 28 = .ok (.aload_n 0, 1) := by decide +kernel
theorem dX5_init_29 : decode cX5_init 29 = .ok (.getfield 22, 3) := by decide +kernel
theorem dX5_init_32 : decode cX5_init 32 = .ok (.aload_n 2, 1) := by decide +kernel
theorem dX5_init_33 : decode cX5_init 33 = .ok (.getfield 26, 3) := by decide +kernel
theorem dX5_init_36 : decode cX5_init 36 = .ok (.invokevirtual 27, 3) := by decide +kernel
theorem dX5_init_39 : decode cX5_init 39 = .ok (.aload_n 0, 1) := by decide +kernel
theorem dX5_init_40 : decode cX5_init 40 = .ok (.new 31, 3) := by decide +kernel
theorem dX5_init_43 : decode cX5_init 43 = .ok (.dup, 1) := by decide +kernel
theorem dX5_init_44 : decode cX5_init 44 = .ok (.invokespecial 33, 3) := by decide +kernel
theorem dX5_init_47 : decode cX5_init 47 = .ok (.putfield 34, 3) := by decide +kernel
theorem dX5_init_50 : decode cX5_init 50 = .ok (.aload_n 0, 1) := by decide +kernel
theorem dX5_init_51 : decode cX5_init 51 = .ok (.getfield 34, 3) := by decide +kernel
theorem dX5_init_54 : decode cX5_init 54 = .ok (.aload_n 3, 1) := by decide +kernel
theorem dX5_init_55 : decode cX5_init 55 = .ok (.invokevirtual 38, 3) := by decide +kernel
theorem dX5_init_58 : decode cX5_init 58 = .ok (.return_, 1) := by decide +kernel
theorem dX5_isOutdated_0 : decode cX5_isOutdated 0 = .ok (.aload_n 0, 1) := by decide +kernel
theorem dX5_isOutdated_1 : decode cX5_isOutdated 1 = .ok (.getfield 41, 3) := by decide +kernel
theorem dX5_isOutdated_4 : decode cX5_isOutdated 4 = .ok (.ifCond .ne 17, 3) := by decide +kernel
theorem dX5_isOutdated_7 : decode cX5_isOutdated 7 = .ok (.aload_n 0, 1) := by decide +kernel
theorem dX5_isOutdated_8 : decode cX5_isOutdated 8 = .ok (.getfield 34, 3) := by decide +kernel
theorem dX5_isOutdated_11 : decode cX5_isOutdated 11 = .ok (.invokevirtual 45, 3) := by decide +kernel
theorem dX5_isOutdated_14 : decode cX5_isOutdated 14 = .ok (.ifCond .eq 7, 3) := by decide +kernel
theorem dX5_isOutdated_17 : decode cX5_isOutdated 17 = .ok (.iconst 1, 1) := by decide +kernel
theorem dX5_isOutdated_18 : decode cX5_isOutdated 18 = .ok (.goto 4, 3) := by decide +kernel
theorem dX5_isOutdated_21 : decode cX5_isOutdated 21 = .ok (.iconst 0, 1) := by decide +kernel
theorem dX5_isOutdated_22 : decode cX5_isOutdated 22 = .ok (.ireturn, 1) := by decide +kernel
theorem dX6_init_0 : decode cX6_init 0 = .ok (.aload_n 0, 1) := by decide +kernel
theorem dX6_init_1 : decode cX6_init 1 = .ok (.invokespecial 1, 3) := by decide +kernel
theorem dX6_init_4 : decode cX6_init 4 = .ok (.aload_n 0, 1) := by decide +kernel
theorem dX6_init_5 : decode cX6_init 5 = .ok (.new 7, 3) := by decide +kernel
theorem dX6_init_8 : decode cX6_init 8 = .ok (.dup, 1) := by decide +kernel
theorem dX6_init_9 : decode cX6_init 9 = .ok (.invokespecial 9, 3) := by decide +kernel
theorem dX6_init_12 : decode cX6_init 12 = .ok (.putfield 10, 3) := by decide +kernel
theorem dX6_init_15 : decode cX6_init 15 = .ok (.return_, 1) := by decide +kernel
theorem dX6_sameAs_0 : decode cX6_sameAs 0 = .ok (.aload_n 0, 1) := by decide +kernel
theorem dX6_sameAs_1 : decode cX6_sameAs 1 = .ok (.getfield 16, 3) := by decide +kernel
theorem dX6_sameAs_4 : decode cX6_sameAs 4 = .ok (.aload_n 1, 1) := by decide +kernel
theorem dX6_sameAs_5 : decode cX6_sameAs 5 = .ok (.getfield 16, 3) := by decide +kernel
theorem dX6_sameAs_8 : decode cX6_sameAs 8 = .ok (.if_icmp .ne 32, 3) := by decide +kernel
theorem dX6_sameAs_11 : decode cX6_sameAs 11 = .ok (.aload_n 0, 1) := by decide +kernel
theorem dX6_sameAs_12 : decode cX6_sameAs 12 = .ok (.getfield 20, 3) := by decide +kernel
theorem dX6_sameAs_15 : decode cX6_sameAs 15 = .ok (.aload_n 1, 1) := by decide +kernel
theorem dX6_sameAs_16 : decode cX6_sameAs 16 = .ok (.getfield 20, 3) := by decide +kernel
theorem dX6_sameAs_19 : decode cX6_sameAs 19 = .ok (.if_icmp .ne 21, 3) := by decide +kernel
theorem dX6_sameAs_22 : decode cX6_sameAs 22 = .ok (.aload_n 0, 1) := by decide +kernel
theorem dX6_sameAs_23 : decode cX6_sameAs 23 = .ok (.getfield 10, 3) := by decide +kernel
theorem dX6_sameAs_26 : decode cX6_sameAs 26 = .ok (.aload_n 1, 1) := by decide +kernel
theorem dX6_sameAs_27 : decode cX6_sameAs 27 = .ok (.getfield 10, 3) := by decide +kernel
theorem dX6_sameAs_30 : decode cX6_sameAs 30 = .ok (.invokevirtual 23, 3) := by decide +kernel
theorem dX6_sameAs_33 : decode cX6_sameAs 33 = .ok (.ifCond .eq 7, 3) := by decide +kernel
theorem dX6_sameAs_36 : decode cX6_sameAs 36 = .ok (.iconst 1, 1) := by decide +kernel
theorem dX6_sameAs_37 : decode cX6_sameAs 37 = .ok (.goto 4, 3) := by decide +kernel
theorem dX6_sameAs_40 : decode cX6_sameAs 40 = .ok (.iconst 0, 1) := by decide +kernel
theorem dX6_sameAs_41 : decode cX6_sameAs 41 = .ok (.ireturn, 1) := by decide +kernel
theorem dX6_copyFrom_0 : decode cX6_copyFrom 0 = .ok (.aload_n 0, 1) := by decide +kernel
theorem dX6_copyFrom_1 : decode cX6_copyFrom 1 = .ok (.aload_n 1, 1) := by decide +kernel
theorem dX6_copyFrom_2 : decode cX6_copyFrom 2 = .ok (.getfield 16, 3) := by decide +kernel
theorem dX6_copyFrom_5 : decode cX6_copyFrom 5 = .ok (.putfield 16, 3) := by decide +kernel
theorem dX6_copyFrom_8 : decode cX6_copyFrom 8 = .ok (.aload_n 0, 1) := by decide +kernel
theorem dX6_copyFrom_9 : decode cX6_copyFrom 9 = .ok (.aload_n 1, 1) := by decide +kernel
theorem dX6_copyFrom_10 : decode cX6_copyFrom 10 = .ok (.getfield 20, 3) := by decide +kernel
theorem dX6_copyFrom_13 : decode cX6_copyFrom 13 = .ok (.putfield 20, 3) := by decide +kernel
theorem dX6_copyFrom_16 : decode cX6_copyFrom 16 = .ok (.aload_n 0, 1) := by decide +kernel
theorem dX6_copyFrom_17 : decode cX6_copyFrom 17 = .ok (.getfield 10, 3) := by decide +kernel
theorem dX6_copyFrom_20 : decode cX6_copyFrom 20 = .ok (.aload_n 1, 1) := by decide +kernel
theorem dX6_copyFrom_21 : decode cX6_copyFrom 21 = .ok (.getfield 10, 3) := by decide +kernel
theorem dX6_copyFrom_24 : decode cX6_copyFrom 24 = .ok (.invokevirtual 27, 3) := by decide +kernel
theorem dX6_copyFrom_27 : decode cX6_copyFrom 27 = .ok (.return_, 1) := by decide +kernel
theorem dX7_init_0 : decode cX7_init 0 = .ok (.aload_n 0, 1) := by decide +kernel
theorem dX7_init_1 : decode cX7_init 1 = .ok (.invokespecial 3, 3) := by decide +kernel
theorem dX7_init_4 : decode cX7_init 4 = .ok (.aload_n 0, 1) := by decide +kernel
theorem dX7_init_5 : decode cX7_init 5 = .ok (.iload_n 1, 1) := by decide +kernel
theorem dX7_init_6 : decode cX7_init 6 = .ok (.putfield 9, 3) := by decide +kernel
theorem dX7_init_9 : decode cX7_init 9 = .ok (.aload_n 0, 1) := by decide +kernel
theorem dX7_init_10 : decode cX7_init 10 = .ok (.iload_n 2, 1) := by decide +kernel
theorem dX7_init_11 : decode cX7_init 11 = .ok (.putfield 15, 3) := by decide +kernel
theorem dX7_init_14 : decode cX7_init 14 = .ok (.aload_n 0, 1) := by decide +kernel
theorem dX7_init_15 : decode cX7_init 15 = .ok (.bipush 8, 2) := by decide +kernel
theorem dX7_init_17 : decode cX7_init 17 = .ok (.newarray .boolean, 2) := by decide +kernel
theorem dX7_init_19 : decode cX7_init 19 = .ok (.putfield 18, 3) := by decide +kernel
theorem dX7_init_22 : decode cX7_init 22 = .ok (.return_, 1) := by decide +kernel
theorem dX7_addResult_0 : decode cX7_addResult 0 = .ok (.aload_n 0, 1) := by decide +kernel
theorem dX7_addResult_1 : decode cX7_addResult 1 = .ok (.getfield 22, 3) := by decide +kernel
theorem dX7_addResult_4 : decode cX7_addResult 4 = .ok (.bipush 8, 2) := by decide +kernel
theorem dX7_addResult_6 : decode cX7_addResult 6 = .ok (.if_icmp .lt 7, 3) := by decide +kernel
theorem dX7_addResult_9 : decode cX7_addResult 9 = .ok (.aload_n 0, 1) := by decide +kernel
theorem dX7_addResult_10 : decode cX7_addResult 10 = .ok (.invokevirtual 25, 3) := by decide +kernel
theorem dX7_addResult_13 : decode cX7_addResult 13 = .ok (.aload_n 0, 1) := by decide +kernel
theorem dX7_addResult_14 : decode cX7_addResult 14 = .ok (.getfield 22, 3) := by decide +kernel
theorem dX7_addResult_17 : decode cX7_addResult 17 = .ok (.ifCond .lt 32, 3) := by decide +kernel
theorem dX7_addResult_20 : decode cX7_addResult 20 = .ok (.aload_n 0, 1) := by decide +kernel
theorem dX7_addResult_21 : decode cX7_addResult 21 = .ok (.getfield 22, 3) := by decide +kernel
theorem dX7_addResult_24 : decode cX7_addResult 24 = .ok (.bipush 8, 2) := by decide +kernel
theorem dX7_addResult_26 : decode cX7_addResult 26 = .ok (.if_icmp .ge 23, 3) := by decide +kernel
theorem dX7_addResult_29 : decode cX7_addResult 29 = .ok (.aload_n 0, 1) := by decide +kernel
theorem dX7_addResult_30 : decode cX7_addResult 30 = .ok (.getfield 18, 3) := by decide +kernel
theorem dX7_addResult_33 : decode cX7_addResult 33 = .ok (.aload_n 0, 1) := by decide +kernel
theorem dX7_addResult_34 : decode cX7_addResult 34 = .ok (.getfield 22, 3) := by decide +kernel
theorem dX7_addResult_37 : decode cX7_addResult 37 = .ok (.iload_n 1, 1) := by decide +kernel
theorem dX7_addResult_38 : decode cX7_addResult 38 = .ok (.bastore, 1) := by decide +kernel
theorem dX7_addResult_39 : decode cX7_addResult 39 = .ok (.aload_n 0, 1) := by decide +kernel
theorem dX7_addResult_40 : decode cX7_addResult 40 = .ok (.dup, 1) := by decide +kernel
theorem dX7_addResult_41 : decode cX7_addResult 41 = .ok (.getfield 22, 3) := by decide +kernel
theorem dX7_addResult_44 : decode cX7_addResult 44 = .ok (.iconst 1, 1) := by decide +kernel
theorem dX7_addResult_45 : decode cX7_addResult 45 = .ok (.iadd, 1) := by decide +kernel
theorem dX7_addResult_46 : decode cX7_addResult 46 = .ok (.putfield 22, 3) := by decide +kernel
theorem dX7_addResult_49 : decode cX7_addResult 49 = .ok (.return_, 1) := by decide +kernel
theorem dX7_forgetOldest_0 : decode cX7_forgetOldest 0 = .ok (.iconst 1, 1) := by decide +kernel
theorem dX7_forgetOldest_1 : decode cX7_forgetOldest 1 = .ok (.istore_n 1, 1) := by decide +kernel
theorem dX7_forgetOldest_2 : decode cX7_forgetOldest 2 = .ok (.iload_n 1, 1) := by decide +kernel
theorem dX7_forgetOldest_3 : decode cX7_forgetOldest 3 = .ok (.bipush 8, 2) := by decide +kernel
theorem dX7_forgetOldest_5 : decode cX7_forgetOldest 5 = .ok (.if_icmp .ge 23, 3) := by decide +kernel
theorem dX7_forgetOldest_8 : decode cX7_forgetOldest 8 = .ok (.aload_n 0, 1) := by decide +kernel
theorem dX7_forgetOldest_9 : decode cX7_forgetOldest 9 = .ok (.getfield 18, 3) := by decide +kernel
theorem dX7_forgetOldest_12 : decode cX7_forgetOldest 12 = .ok (.iload_n 1, 1) := by decide +kernel
theorem dX7_forgetOldest_13 : decode cX7_forgetOldest 13 = .ok (.iconst 1, 1) := by decide +kernel
theorem dX7_forgetOldest_14 : decode cX7_forgetOldest 14 = .ok (.isub, 1) := by decide +kernel
theorem dX7_forgetOldest_15 : decode cX7_forgetOldest 15 = .ok (.aload_n 0, 1) := by decide +kernel
theorem dX7_forgetOldest_16 : decode cX7_forgetOldest 16 = .ok (.getfield 18, 3) := by decide +kernel
theorem dX7_forgetOldest_19 : decode cX7_forgetOldest 19 = .ok (.iload_n 1, 1) := by decide +kernel
theorem dX7_forgetOldest_20 : decode cX7_forgetOldest 20 = .ok (.baload, 1) := by decide +kernel
theorem dX7_forgetOldest_21 : decode cX7_forgetOldest 21 = .ok (.bastore, 1) := by decide +kernel
theorem dX7_forgetOldest_22 : decode cX7_forgetOldest 22 = .ok (.iinc 1 1, 3) := by decide +kernel
theorem dX7_forgetOldest_25 : decode cX7_forgetOldest 25 = .ok (.goto (-23), 3) := by decide +kernel
theorem dX7_forgetOldest_28 : decode cX7_forgetOldest 28 = .ok (.aload_n 0, 1) := by decide +kernel
theorem dX7_forgetOldest_29 : decode cX7_forgetOldest 29 = .ok (.bipush 7, 2) := by decide +kernel
theorem dX7_forgetOldest_31 : decode cX7_forgetOldest 31 = .ok (.putfield 22, 3) := by decide +kernel
theorem dX7_forgetOldest_34 : decode cX7_forgetOldest 34 = .ok (.return_, 1) := by decide +kernel
theorem dX7_countTurns_0 : decode cX7_countTurns 0 = .ok (.iconst 0, 1) := by decide +kernel
theorem dX7_countTurns_1 : decode cX7_countTurns 1 = .ok (.istore_n 1, 1) := by decide +kernel
theorem dX7_countTurns_2 : decode cX7_countTurns 2 = .ok (.iconst 1, 1) := by decide +kernel
theorem dX7_countTurns_3 : decode cX7_countTurns 3 = .ok (.istore_n 2, 1) := by decide +kernel
theorem dX7_countTurns_4 : decode cX7_countTurns 4 = .ok (.iload_n 2, 1) := by decide +kernel
theorem dX7_countTurns_5 : decode cX7_countTurns 5 = .ok (.aload_n 0, 1) := by decide +kernel
theorem dX7_countTurns_6 : decode cX7_countTurns 6 = .ok (.getfield 22, 3) := by decide +kernel
theorem dX7_countTurns_9 : decode cX7_countTurns 9 = .ok (.if_icmp .ge 40, 3) := by decide +kernel
theorem dX7_countTurns_12 : decode cX7_countTurns 12 = .ok (.iload_n 2, 1) := by decide +kernel
theorem dX7_countTurns_13 : decode cX7_countTurns 13 = .ok (.bipush 8, 2) := by decide +kernel
theorem dX7_countTurns_15 : decode cX7_countTurns 15 = .ok (.if_icmp .ge 34, 3) := by decide +kernel
theorem dX7_countTurns_18 : decode cX7_countTurns 18 = .ok (.iload_n 1, 1) := by decide +kernel
theorem dX7_countTurns_19 : decode cX7_countTurns 19 = .ok (.aload_n 0, 1) := by decide +kernel
theorem dX7_countTurns_20 : decode cX7_countTurns 20 = .ok (.getfield 18, 3) := by decide +kernel
theorem dX7_countTurns_23 : decode cX7_countTurns 23 = .ok (.iload_n 2, 1) := by decide +kernel
theorem dX7_countTurns_24 : decode cX7_countTurns 24 = .ok (.baload, 1) := by decide +kernel
theorem dX7_countTurns_25 : decode cX7_countTurns 25 = .ok (.aload_n 0, 1) := by decide +kernel
theorem dX7_countTurns_26 : decode cX7_countTurns 26 = .ok (.getfield 18, 3) := by decide +kernel
theorem dX7_countTurns_29 : decode cX7_countTurns 29 = .ok (.iload_n 2, 1) := by decide +kernel
theorem dX7_countTurns_30 : decode cX7_countTurns 30 = .ok (.iconst 1, 1) := by decide +kernel
theorem dX7_countTurns_31 : decode cX7_countTurns 31 = .ok (.isub, 1) := by decide +kernel
theorem dX7_countTurns_32 : decode cX7_countTurns 32 = .ok (.baload, 1) := by decide +kernel
theorem dX7_countTurns_33 : decode cX7_countTurns 33 = .ok (.if_icmp .ne 7, 3) := by decide +kernel
theorem dX7_countTurns_36 : decode cX7_countTurns 36 = .ok (.iconst 0, 1) := by decide +kernel
theorem dX7_countTurns_37 : decode cX7_countTurns 37 = .ok (.goto 4, 3) := by decide +kernel
theorem dX7_countTurns_40 : decode cX7_countTurns 40 = .ok (.iconst 1, 1) := by decide +kernel
theorem dX7_countTurns_41 : decode cX7_countTurns 41 = .ok (.iadd, 1) := by decide +kernel
theorem dX7_countTurns_42 : decode cX7_countTurns 42 = .ok (.istore_n 1, 1) := by decide +kernel
theorem dX7_countTurns_43 : decode cX7_countTurns 43 = .ok (.iinc 2 1, 3) := by decide +kernel
theorem dX7_countTurns_46 : decode cX7_countTurns 46 = .ok (.goto (-42), 3) := by decide +kernel
theorem dX7_countTurns_49 : decode cX7_countTurns 49 = .ok (.iload_n 1, 1) := by decide +kernel
theorem dX7_countTurns_50 : decode cX7_countTurns 50 = .ok (.ireturn, 1) := by decide +kernel
theorem dX8_init_0 : decode cX8_init 0 = .ok (.aload_n 0, 1) := by decide +kernel
theorem dX8_init_1 : decode cX8_init 1 = .ok (.invokespecial 1, 3) := by decide +kernel
theorem dX8_init_4 : decode cX8_init 4 = .ok (.aload_n 0, 1) := by decide +kernel
theorem dX8_init_5 : decode cX8_init 5 = .ok (.new 7, 3) := by decide +kernel
theorem dX8_init_8 : decode cX8_init 8 = .ok (.dup, 1) := by decide +kernel
theorem dX8_init_9 : decode cX8_init 9 = .ok (.invokespecial 9, 3) := by decide +kernel
theorem dX8_init_12 : decode cX8_init 12 = .ok (.putfield 10, 3) := by decide +kernel
theorem dX8_init_15 : decode cX8_init 15 = .ok (.aload_n 0, 1) := by decide +kernel
theorem dX8_init_16 : decode cX8_init 16 = .ok (.new 16, 3) := by decide +kernel
theorem dX8_init_19 : decode cX8_init 19 = .ok (.dup, 1) := by decide +kernel
theorem dX8_init_20 : decode cX8_init 20 = .ok (.invokespecial 18, 3) := by decide +kernel
theorem dX8_init_23 : decode cX8_init 23 = .ok (.putfield 19, 3) := by decide +kernel
theorem dX8_init_26 : decode cX8_init 26 = .ok (.return_, 1) := by decide +kernel
theorem dX8_remember_0 : decode cX8_remember 0 = .ok (.aload_n 0, 1) := by decide +kernel
theorem dX8_remember_1 : decode cX8_remember 1 = .ok (.iload_n 1, 1) := by decide +kernel
theorem dX8_remember_2 : decode cX8_remember 2 = .ok (.putfield 23, 3) := by decide +kernel
theorem dX8_remember_5 : decode cX8_remember 5 = .ok (.aload_n 0, 1) := by decide +kernel
theorem dX8_remember_6 : decode cX8_remember 6 = .ok (.getfield 10, 3) := by decide +kernel
theorem dX8_remember_9 : decode cX8_remember 9 = .ok (.aload_n 2, 1) := by decide +kernel
theorem dX8_remember_10 : decode cX8_remember 10 = .ok (.invokevirtual 27, 3) := by decide +kernel
theorem dX8_remember_13 : decode cX8_remember 13 = .ok (.aload_n 0, 1) := by decide +kernel
theorem dX8_remember_14 : decode cX8_remember 14 = .ok (.getfield 19, 3) := by decide +kernel
theorem dX8_remember_17 : decode cX8_remember 17 = .ok (.aload_n 3, 1) := by decide +kernel
theorem dX8_remember_18 : decode cX8_remember 18 = .ok (.invokevirtual 31, 3) := by decide +kernel
theorem dX8_remember_21 : decode cX8_remember 21 = .ok (.return_, 1) := by decide +kernel
theorem dX9_init_0 : decode cX9_init 0 = .ok (.aload_n 0, 1) := by decide +kernel
theorem dX9_init_1 : decode cX9_init 1 = .ok (.invokespecial 1, 3) := by decide +kernel
theorem dX9_init_4 : decode cX9_init 4 = .ok (.aload_n 0, 1) := by decide +kernel
theorem dX9_init_5 : decode cX9_init 5 = .ok (.new 7, 3) := by decide +kernel
theorem dX9_init_8 : decode cX9_init 8 = .ok (.dup, 1) := by decide +kernel
theorem dX9_init_9 : decode cX9_init 9 = .ok (.invokespecial 9, 3) := by decide +kernel
theorem dX9_init_12 : decode cX9_init 12 = .ok (.putfield 10, 3) := by decide +kernel
theorem dX9_init_15 : decode cX9_init 15 = .ok (.aload_n 0, 1) := by decide +kernel
theorem dX9_init_16 : decode cX9_init 16 = .ok (.new 7, 3) := by decide +kernel
theorem dX9_init_19 : decode cX9_init 19 = .ok (.dup, 1) := by decide +kernel
theorem dX9_init_20 : decode cX9_init 20 = .ok (.invokespecial 9, 3) := by decide +kernel
theorem dX9_init_23 : decode cX9_init 23 = .ok (.putfield 16, 3) := by decide +kernel
theorem dX9_init_26 : decode cX9_init 26 = .ok (.aload_n 0, 1) := by decide +kernel
theorem dX9_init_27 : decode cX9_init 27 = .ok (.new 7, 3) := by decide +kernel
theorem dX9_init_30 : decode cX9_init 30 = .ok (.dup, 1) := by decide +kernel
theorem dX9_init_31 : decode cX9_init 31 = .ok (.invokespecial 9, 3) := by decide +kernel
theorem dX9_init_34 : decode cX9_init 34 = .ok (.putfield 19, 3) := by decide +kernel
theorem dX9_init_37 : decode cX9_init 37 = .ok (.aload_n 0, 1) := by decide +kernel
theorem dX9_init_38 : decode cX9_init 38 = .ok (.new 22, 3) := by decide +kernel
theorem dX9_init_41 : decode cX9_init 41 = .ok (.dup, 1) := by decide +kernel
theorem dX9_init_42 : decode cX9_init 42 = .ok (.invokespecial 24, 3) := by decide +kernel
theorem dX9_init_45 : decode cX9_init 45 = .ok (.putfield 25, 3) := by decide +kernel
theorem dX9_init_48 : decode cX9_init 48 = .ok (.aload_n 0, 1) := by decide +kernel
theorem dX9_init_49 : decode cX9_init 49 = .ok (.iconst 3, 1) := by decide +kernel
theorem dX9_init_50 : decode cX9_init 50 = .ok (.newarray .int, 2) := by decide +kernel
theorem dX9_init_52 : decode cX9_init 52 = .ok (.putfield 29, 3) := by decide +kernel
theorem dX9_init_55 : decode cX9_init 55 = .ok (.aload_n 0, 1) := by decide +kernel
theorem dX9_init_56 : decode cX9_init 56 = .ok (.iconst 4, 1) := by decide +kernel
theorem dX9_init_57 : decode cX9_init 57 = .ok (.newarray .int, 2) := by decide +kernel
theorem dX9_init_59 : decode cX9_init 59 = .ok (.putfield 33, 3) := by decide +kernel
theorem dX9_init_62 : decode cX9_init 62 = .ok (.aload_n 0, 1) := by decide +kernel
theorem dX9_init_63 : decode cX9_init 63 = .ok (.iconst 1, 1) := by decide +kernel
theorem dX9_init_64 : decode cX9_init 64 = .ok (.putfield 36, 3) := by decide +kernel
theorem dX9_init_67 : decode cX9_init 67 = .ok (.return_, 1) := by decide +kernel
theorem dX9_addPackage_0 : decode cX9_addPackage 0 = .ok (.iload_n 1, 1) := by decide +kernel
theorem dX9_addPackage_1 : decode cX9_addPackage 1 = .ok (.invokestatic 40, 3) := by decide +kernel
theorem dX9_addPackage_4 : decode cX9_addPackage 4 = .ok (.aload_n 0, 1) := by decide +kernel
theorem dX9_addPackage_5 : decode cX9_addPackage 5 = .ok (.getfield 10, 3) := by decide +kernel
theorem dX9_addPackage_8 : decode cX9_addPackage 8 = .ok (.invokevirtual 44, 3) := by decide +kernel
theorem dX9_addPackage_11 : decode cX9_addPackage 11 = .ok (.bipush 6, 2) := by decide +kernel
theorem dX9_addPackage_13 : decode cX9_addPackage 13 = .ok (.if_icmp .lt 13, 3) := by decide +kernel
theorem dX9_addPackage_16 : decode cX9_addPackage 16 = .ok (.new 48, 3) := by decide +kernel
theorem dX9_addPackage_19 : decode cX9_addPackage 19 = .ok (.dup, 1) := by decide +kernel
theorem dX9_addPackage_20 : decode cX9_addPackage 20 = .ok (.ldc 50, 2) := by decide +kernel
theorem dX9_addPackage_22 : decode cX9_addPackage 22 = .ok (.invokespecial 52, 3) := by decide +kernel
theorem dX9_addPackage_25 : decode cX9_addPackage 25 = .ok (.athrow, 1) := by decide +kernel
theorem dX9_addPackage_26 : decode cX9_addPackage 26 = .ok (.aload_n 0, 1) := by decide +kernel
theorem dX9_addPackage_27 : decode cX9_addPackage 27 = .ok (.getfield 10, 3) := by decide +kernel
theorem dX9_addPackage_30 : decode cX9_addPackage 30 = .ok (.new 55, 3) := by decide +kernel
theorem dX9_addPackage_33 : decode cX9_addPackage 33 = .ok (.dup, 1) := by decide +kernel
theorem dX9_addPackage_34 : decode cX9_addPackage 34 = .ok (.iload_n 1, 1) := by decide +kernel
theorem dX9_addPackage_35 : decode cX9_addPackage 35 = .ok (.invokespecial 57, 3) := by decide +kernel
theorem dX9_addPackage_38 : decode cX9_addPackage 38 = .ok (.invokevirtual 59, 3) := by decide +kernel
theorem dX9_addPackage_41 : decode cX9_addPackage 41 = .ok (.pop, 1) := by decide +kernel
theorem dX9_addPackage_42 : decode cX9_addPackage 42 = .ok (.aload_n 0, 1) := by decide +kernel
theorem dX9_addPackage_43 : decode cX9_addPackage 43 = .ok (.getfield 10, 3) := by decide +kernel
theorem dX9_addPackage_46 : decode cX9_addPackage 46 = .ok (.invokevirtual 44, 3) := by decide +kernel
theorem dX9_addPackage_49 : decode cX9_addPackage 49 = .ok (.iconst 1, 1) := by decide +kernel
theorem dX9_addPackage_50 : decode cX9_addPackage 50 = .ok (.isub, 1) := by decide +kernel
theorem dX9_addPackage_51 : decode cX9_addPackage 51 = .ok (.ireturn, 1) := by decide +kernel
theorem dX9_setSource_0 : decode cX9_setSource 0 = .ok (.aload_n 0, 1) := by decide +kernel
theorem dX9_setSource_1 : decode cX9_setSource 1 = .ok (.iload_n 1, 1) := by decide +kernel
theorem dX9_setSource_2 : decode cX9_setSource 2 = .ok (.invokevirtual 63, 3) := by decide +kernel
theorem dX9_setSource_5 : decode cX9_setSource 5 = .ok (.getfield 67, 3) := by decide +kernel
theorem dX9_setSource_8 : decode cX9_setSource 8 = .ok (.astore 4, 2) := by decide +kernel
theorem dX9_setSource_10 : decode cX9_setSource 10 = .ok (.iload_n 2, 1) := by decide +kernel
theorem dX9_setSource_11 : decode cX9_setSource 11 = .ok (.iconst 0, 1) := by decide +kernel
theorem dX9_setSource_12 : decode cX9_setSource 12 = .ok (.sipush 999, 3) := by decide +kernel
theorem dX9_setSource_15 : decode cX9_setSource 15 = .ok (.invokestatic 71, 3) := by decide +kernel
theorem dX9_setSource_18 : decode cX9_setSource 18 = .ok (.ifCond .eq 14, 3) := by decide +kernel
theorem dX9_setSource_21 : decode cX9_setSource 21 = .ok (.iload_n 3, 1) := by decide +kernel
theorem dX9_setSource_22 : decode cX9_setSource 22 = .ok (.iconst 0, 1) := by decide +kernel
theorem dX9_setSource_23 : decode cX9_setSource 23 = .ok (.sipush 999, 3) := by decide +kernel
theorem dX9_setSource_26 : decode cX9_setSource 26 = .ok (.invokestatic 71, 3) := by decide +kernel
theorem dX9_setSource_29 : decode cX9_setSource 29 = .ok (.ifCond .ne 13, 3) := by decide +kernel
theorem dX9_setSource_32 : decode cX9_setSource 32 = .ok (.new 75, 3) := by decide +kernel
theorem dX9_setSource_35 : decode cX9_setSource 35 = .ok (.dup, 1) := by decide +kernel
theorem dX9_setSource_36 : decode cX9_setSource 36 = .ok (.ldc 77, 2) := by decide +kernel
theorem dX9_setSource_38 : decode cX9_setSource 38 = .ok (.invokespecial 79, 3) := by decide +kernel
theorem dX9_setSource_41 : decode cX9_setSource 41 = .ok (.athrow, 1) := by decide +kernel
theorem dX9_setSource_42 : decode cX9_setSource 42 = .ok (.aload 4, 2) := by decide +kernel
theorem dX9_setSource_44 : decode cX9_setSource 44 = .ok (.getfield 80, 3) := by decide +kernel
theorem dX9_setSource_47 : decode cX9_setSource 47 = .ok (.iload_n 2, 1) := by decide +kernel
theorem dX9_setSource_48 : decode cX9_setSource 48 = .ok (.if_icmp .ne 7, 3) := by decide +kernel
theorem dX9_setSource_51 : decode cX9_setSource 51 = .ok (.iconst 0, 1) := by decide +kernel
theorem dX9_setSource_52 : decode cX9_setSource 52 = .ok (.goto 4, 3) := by decide +kernel
theorem dX9_setSource_55 : decode cX9_setSource 55 = .ok (.iconst 1, 1) := by decide +kernel
theorem dX9_setSource_56 : decode cX9_setSource 56 = .ok (.aload 4, 2) := by decide +kernel
theorem dX9_setSource_58 : decode cX9_setSource 58 = .ok (.getfield 85, 3) := by decide +kernel
theorem dX9_setSource_61 : decode cX9_setSource 61 = .ok (.iload_n 3, 1) := by decide +kernel
theorem dX9_setSource_62 : decode cX9_setSource 62 = .ok (.if_icmp .ne 7, 3) := by decide +kernel
theorem dX9_setSource_65 : decode cX9_setSource 65 = .ok (.iconst 0, 1) := by decide +kernel
theorem dX9_setSource_66 : decode cX9_setSource 66 = .ok (.goto 4, 3) := by decide +kernel
theorem dX9_setSource_69 : decode cX9_setSource 69 = .ok (.iconst 1, 1) := by decide +kernel
theorem dX9_setSource_70 : decode cX9_setSource 70 = .ok (.iadd, 1) := by decide +kernel
theorem dX9_setSource_71 : decode cX9_setSource 71 = .ok (.istore 5, 2) := by decide +kernel
theorem dX9_setSource_73 : decode cX9_setSource 73 = .ok (.aload 4, 2) := by decide +kernel
theorem dX9_setSource_75 : decode cX9_setSource 75 = .ok (.iload_n 2, 1) := by decide +kernel
theorem dX9_setSource_76 : decode cX9_setSource 76 = .ok (.putfield 80, 3) := by decide +kernel
theorem dX9_setSource_79 : decode cX9_setSource 79 = .ok (.aload 4, 2) := by decide +kernel
theorem dX9_setSource_81 : decode cX9_setSource 81 = .ok (.iload_n 3, 1) := by decide +kernel
theorem dX9_setSource_82 : decode cX9_setSource 82 = .ok (.putfield 85, 3) := by decide +kernel
theorem dX9_setSource_85 : decode cX9_setSource 85 = .ok (.iload 5, 2) := by decide +kernel
theorem dX9_setSource_87 : decode cX9_setSource 87 = .ok (.ireturn, 1) := by decide +kernel
theorem dX9_need_0 : decode cX9_need 0 = .ok (.aload_n 0, 1) := by decide +kernel
theorem dX9_need_1 : decode cX9_need 1 = .ok (.iload_n 1, 1) := by decide +kernel
theorem dX9_need_2 : decode cX9_need 2 = .ok (.invokevirtual 63, 3) := by decide +kernel
theorem dX9_need_5 : decode cX9_need 5 = .ok (.getfield 67, 3) := by decide +kernel
theorem dX9_need_8 : decode cX9_need 8 = .ok (.getfield 88, 3) := by decide +kernel
theorem dX9_need_11 : decode cX9_need 11 = .ok (.astore 5, 2) := by decide +kernel
theorem dX9_need_13 : decode cX9_need 13 = .ok (.aload_n 0, 1) := by decide +kernel
theorem dX9_need_14 : decode cX9_need 14 = .ok (.iload_n 2, 1) := by decide +kernel
theorem dX9_need_15 : decode cX9_need 15 = .ok (.invokevirtual 92, 3) := by decide +kernel
theorem dX9_need_18 : decode cX9_need 18 = .ok (.iload_n 2, 1) := by decide +kernel
theorem dX9_need_19 : decode cX9_need 19 = .ok (.iload_n 1, 1) := by decide +kernel
theorem dX9_need_20 : decode cX9_need 20 = .ok (.if_icmp .lt 13, 3) := by decide +kernel
theorem dX9_need_23 : decode cX9_need 23 = .ok (.new 75, 3) := by decide +kernel
theorem dX9_need_26 : decode cX9_need 26 = .ok (.dup, 1) := by decide +kernel
theorem dX9_need_27 : decode cX9_need 27 = .ok (.ldc 95, 2) := by decide +kernel
theorem dX9_need_29 : decode cX9_need 29 = .ok (.invokespecial 79, 3) := by decide +kernel
theorem dX9_need_32 : decode cX9_need 32 = .ok (.athrow, 1) := by decide +kernel
theorem dX9_need_33 : decode cX9_need 33 = .ok (.iload_n 3, 1) := by decide +kernel
theorem dX9_need_34 : decode cX9_need 34 = .ok (.bipush 100, 2) := by decide +kernel
theorem dX9_need_36 : decode cX9_need 36 = .ok (.sipush 999, 3) := by decide +kernel
theorem dX9_need_39 : decode cX9_need 39 = .ok (.invokestatic 71, 3) := by decide +kernel
theorem dX9_need_42 : decode cX9_need 42 = .ok (.ifCond .eq 15, 3) := by decide +kernel
theorem dX9_need_45 : decode cX9_need 45 = .ok (.iload 4, 2) := by decide +kernel
theorem dX9_need_47 : decode cX9_need 47 = .ok (.iload_n 3, 1) := by decide +kernel
theorem dX9_need_48 : decode cX9_need 48 = .ok (.sipush 999, 3) := by decide +kernel
theorem dX9_need_51 : decode cX9_need 51 = .ok (.invokestatic 71, 3) := by decide +kernel
theorem dX9_need_54 : decode cX9_need 54 = .ok (.ifCond .ne 13, 3) := by decide +kernel
theorem dX9_need_57 : decode cX9_need 57 = .ok (.new 75, 3) := by decide +kernel
theorem dX9_need_60 : decode cX9_need 60 = .ok (.dup, 1) := by decide +kernel
theorem dX9_need_61 : decode cX9_need 61 = .ok (.ldc 97, 2) := by decide +kernel
theorem dX9_need_63 : decode cX9_need 63 = .ok (.invokespecial 79, 3) := by decide +kernel
theorem dX9_need_66 : decode cX9_need 66 = .ok (.athrow, 1) := by decide +kernel
theorem dX9_need_67 : decode cX9_need 67 = .ok (.aload 5, 2) := by decide +kernel
theorem dX9_need_69 : decode cX9_need 69 = .ok (.iload_n 2, 1) := by decide +kernel
theorem dX9_need_70 : decode cX9_need 70 = .ok (.iload_n 3, 1) := by decide +kernel
theorem dX9_need_71 : decode cX9_need 71 = .ok (.iload 4, 2) := by decide +kernel
theorem dX9_need_73 : decode cX9_need 73 = .ok (.invokevirtual 99, 3) := by decide +kernel
theorem dX9_need_76 : decode cX9_need 76 = .ok (.aload 5, 2) := by decide +kernel
theorem dX9_need_78 : decode cX9_need 78 = .ok (.invokevirtual 105, 3) := by decide +kernel
theorem dX9_need_81 : decode cX9_need 81 = .ok (.ireturn, 1) := by decide +kernel
theorem dX9_dropNeed_0 : decode cX9_dropNeed 0 = .ok (.aload_n 0, 1) := by decide +kernel
theorem dX9_dropNeed_1 : decode cX9_dropNeed 1 = .ok (.iload_n 1, 1) := by decide +kernel
theorem dX9_dropNeed_2 : decode cX9_dropNeed 2 = .ok (.invokevirtual 63, 3) := by decide +kernel
theorem dX9_dropNeed_5 : decode cX9_dropNeed 5 = .ok (.getfield 67, 3) := by decide +kernel
theorem dX9_dropNeed_8 : decode cX9_dropNeed 8 = .ok (.getfield 88, 3) := by decide +kernel
theorem dX9_dropNeed_11 : decode cX9_dropNeed 11 = .ok (.astore_n 3, 1) := by decide +kernel
theorem dX9_dropNeed_12 : decode cX9_dropNeed 12 = .ok (.aload_n 0, 1) := by decide +kernel
theorem dX9_dropNeed_13 : decode cX9_dropNeed 13 = .ok (.iload_n 2, 1) := by decide +kernel
theorem dX9_dropNeed_14 : decode cX9_dropNeed 14 = .ok (.invokevirtual 92, 3) := by decide +kernel
theorem dX9_dropNeed_17 : decode cX9_dropNeed 17 = .ok (.aload_n 3, 1) := by decide +kernel
theorem dX9_dropNeed_18 : decode cX9_dropNeed 18 = .ok (.iload_n 2, 1) := by decide +kernel
theorem dX9_dropNeed_19 : decode cX9_dropNeed 19 = .ok (.invokevirtual 108, 3) := by decide +kernel
theorem dX9_dropNeed_22 : decode cX9_dropNeed 22 = .ok (.ifCond .ne 13, 3) := by decide +kernel
theorem dX9_dropNeed_25 : decode cX9_dropNeed 25 = .ok (.new 112, 3) := by decide +kernel
theorem dX9_dropNeed_28 : decode cX9_dropNeed 28 = .ok (.dup, 1) := by decide +kernel
theorem dX9_dropNeed_29 : decode cX9_dropNeed 29 = .ok (.ldc 114, 2) := by decide +kernel
theorem dX9_dropNeed_31 : decode cX9_dropNeed 31 = .ok (.invokespecial 116, 3) := by decide +kernel
theorem dX9_dropNeed_34 : decode cX9_dropNeed 34 = .ok (.athrow, 1) := by decide +kernel
theorem dX9_dropNeed_35 : decode cX9_dropNeed 35 = .ok (.aload_n 3, 1) := by decide +kernel
theorem dX9_dropNeed_36 : decode cX9_dropNeed 36 = .ok (.iload_n 2, 1) := by decide +kernel
theorem dX9_dropNeed_37 : decode cX9_dropNeed 37 = .ok (.invokevirtual 117, 3) := by decide +kernel
theorem dX9_dropNeed_40 : decode cX9_dropNeed 40 = .ok (.aload_n 3, 1) := by decide +kernel
theorem dX9_dropNeed_41 : decode cX9_dropNeed 41 = .ok (.invokevirtual 105, 3) := by decide +kernel
theorem dX9_dropNeed_44 : decode cX9_dropNeed 44 = .ok (.ireturn, 1) := by decide +kernel
theorem dX9_chosen_0 : decode cX9_chosen 0 = .ok (.aload_n 0, 1) := by decide +kernel
theorem dX9_chosen_1 : decode cX9_chosen 1 = .ok (.iload_n 1, 1) := by decide +kernel
theorem dX9_chosen_2 : decode cX9_chosen 2 = .ok (.invokevirtual 63, 3) := by decide +kernel
theorem dX9_chosen_5 : decode cX9_chosen 5 = .ok (.getfield 67, 3) := by decide +kernel
theorem dX9_chosen_8 : decode cX9_chosen 8 = .ok (.getfield 88, 3) := by decide +kernel
theorem dX9_chosen_11 : decode cX9_chosen 11 = .ok (.astore_n 3, 1) := by decide +kernel
theorem dX9_chosen_12 : decode cX9_chosen 12 = .ok (.aload_n 0, 1) := by decide +kernel
theorem dX9_chosen_13 : decode cX9_chosen 13 = .ok (.iload_n 2, 1) := by decide +kernel
theorem dX9_chosen_14 : decode cX9_chosen 14 = .ok (.invokevirtual 92, 3) := by decide +kernel
theorem dX9_chosen_17 : decode cX9_chosen 17 = .ok (.aload_n 0, 1) := by decide +kernel
theorem dX9_chosen_18 : decode cX9_chosen 18 = .ok (.getfield 25, 3) := by decide +kernel
theorem dX9_chosen_21 : decode cX9_chosen 21 = .ok (.aload_n 0, 1) := by decide +kernel
theorem dX9_chosen_22 : decode cX9_chosen 22 = .ok (.getfield 10, 3) := by decide +kernel
theorem dX9_chosen_25 : decode cX9_chosen 25 = .ok (.iload_n 1, 1) := by decide +kernel
theorem dX9_chosen_26 : decode cX9_chosen 26 = .ok (.aload_n 3, 1) := by decide +kernel
theorem dX9_chosen_27 : decode cX9_chosen 27 = .ok (.invokevirtual 120, 3) := by decide +kernel
theorem dX9_chosen_30 : decode cX9_chosen 30 = .ok (.invokestatic 124, 3) := by decide +kernel
theorem dX9_chosen_33 : decode cX9_chosen 33 = .ok (.iload_n 2, 1) := by decide +kernel
theorem dX9_chosen_34 : decode cX9_chosen 34 = .ok (.invokevirtual 128, 3) := by decide +kernel
theorem dX9_chosen_37 : decode cX9_chosen 37 = .ok (.ireturn, 1) := by decide +kernel
theorem dX9_chosenByAll_0 : decode cX9_chosenByAll 0 = .ok (.aload_n 0, 1) := by decide +kernel
theorem dX9_chosenByAll_1 : decode cX9_chosenByAll 1 = .ok (.iload_n 1, 1) := by decide +kernel
theorem dX9_chosenByAll_2 : decode cX9_chosenByAll 2 = .ok (.invokevirtual 63, 3) := by decide +kernel
theorem dX9_chosenByAll_5 : decode cX9_chosenByAll 5 = .ok (.getfield 67, 3) := by decide +kernel
theorem dX9_chosenByAll_8 : decode cX9_chosenByAll 8 = .ok (.getfield 88, 3) := by decide +kernel
theorem dX9_chosenByAll_11 : decode cX9_chosenByAll 11 = .ok (.astore_n 3, 1) := by decide +kernel
theorem dX9_chosenByAll_12 : decode cX9_chosenByAll 12 = .ok (.aload_n 0, 1) := by decide +kernel
theorem dX9_chosenByAll_13 : decode cX9_chosenByAll 13 = .ok (.iload_n 2, 1) := by decide +kernel
theorem dX9_chosenByAll_14 : decode cX9_chosenByAll 14 = .ok (.invokevirtual 92, 3) := by decide +kernel
theorem dX9_chosenByAll_17 : decode cX9_chosenByAll 17 = .ok (.aload_n 0, 1) := by decide +kernel
theorem dX9_chosenByAll_18 : decode cX9_chosenByAll 18 = .ok (.getfield 25, 3) := by decide +kernel
theorem dX9_chosenByAll_21 : decode cX9_chosenByAll 21 = .ok (.aload_n 0, 1) := by decide +kernel
theorem dX9_chosenByAll_22 : decode cX9_chosenByAll 22 = .ok (.getfield 10, 3) := by decide +kernel
theorem dX9_chosenByAll_25 : decode cX9_chosenByAll 25 = .ok (.iload_n 1, 1) := by decide +kernel
theorem dX9_chosenByAll_26 : decode cX9_chosenByAll 26 = .ok (.aload_n 3, 1) := by decide +kernel
theorem dX9_chosenByAll_27 : decode cX9_chosenByAll 27 = .ok (.invokevirtual 134, 3) := by decide +kernel
theorem dX9_chosenByAll_30 : decode cX9_chosenByAll 30 = .ok (.invokestatic 124, 3) := by decide +kernel
theorem dX9_chosenByAll_33 : decode cX9_chosenByAll 33 = .ok (.iload_n 2, 1) := by decide +kernel
theorem dX9_chosenByAll_34 : decode cX9_chosenByAll 34 = .ok (.invokevirtual 128, 3) := by decide +kernel
theorem dX9_chosenByAll_37 : decode cX9_chosenByAll 37 = .ok (.ireturn, 1) := by decide +kernel
theorem dX9_compile_0 : decode cX9_compile 0 = .ok (.aload_n 0, 1) := by decide +kernel
theorem dX9_compile_1 : decode cX9_compile 1 = .ok (.iload_n 1, 1) := by decide +kernel
theorem dX9_compile_2 : decode cX9_compile 2 = .ok (.invokevirtual 63, 3) := by decide +kernel
theorem dX9_compile_5 : decode cX9_compile 5 = .ok (.astore_n 2, 1) := by decide +kernel
theorem dX9_compile_6 : decode cX9_compile 6 = .ok (.aload_n 0, 1) := by decide +kernel
theorem dX9_compile_7 : decode cX9_compile 7 = .ok (.getfield 25, 3) := by decide +kernel
theorem dX9_compile_10 : decode cX9_compile 10 = .ok (.aload_n 0, 1) := by decide +kernel
theorem dX9_compile_11 : decode cX9_compile 11 = .ok (.getfield 10, 3) := by decide +kernel
theorem dX9_compile_14 : decode cX9_compile 14 = .ok (.iload_n 1, 1) := by decide +kernel
theorem dX9_compile_15 : decode cX9_compile 15 = .ok (.aload_n 2, 1) := by decide +kernel
theorem dX9_compile_16 : decode cX9_compile 16 = .ok (.getfield 67, 3) := by decide +kernel
theorem dX9_compile_19 : decode cX9_compile 19 = .ok (.getfield 88, 3) := by decide +kernel
theorem dX9_compile_22 : decode cX9_compile 22 = .ok (.invokevirtual 120, 3) := by decide +kernel
theorem dX9_compile_25 : decode cX9_compile 25 = .ok (.invokestatic 124, 3) := by decide +kernel
theorem dX9_compile_28 : decode cX9_compile 28 = .ok (.astore_n 3, 1) := by decide +kernel
theorem dX9_compile_29 : decode cX9_compile 29 = .ok (.aload_n 2, 1) := by decide +kernel
theorem dX9_compile_30 : decode cX9_compile 30 = .ok (.getfield 137, 3) := by decide +kernel
theorem dX9_compile_33 : decode cX9_compile 33 = .ok (.aload_n 2, 1) := by decide +kernel
theorem dX9_compile_34 : decode cX9_compile 34 = .ok (.getfield 67, 3) := by decide +kernel
theorem dX9_compile_37 : decode cX9_compile 37 = .ok (.aload_n 3, 1) := by decide +kernel
theorem dX9_compile_38 : decode cX9_compile 38 = .ok (.invokevirtual 141, 3) := by decide +kernel
theorem dX9_compile_41 : decode cX9_compile 41 = .ok (.ifCond .eq 5, 3) := by decide +kernel
theorem dX9_compile_44 : decode cX9_compile 44 = .ok (.iconst 0, 1) := by decide +kernel
theorem dX9_compile_45 : decode cX9_compile 45 = .ok (.ireturn, 1) := by decide +kernel
theorem dX9_compile_46 : decode cX9_compile 46 = .ok (.aload_n 2, 1) := by decide +kernel
theorem dX9_compile_47 : decode cX9_compile 47 = .ok (.getfield 137, 3) := by decide +kernel
theorem dX9_compile_50 : decode cX9_compile 50 = .ok (.aload_n 2, 1) := by decide +kernel
theorem dX9_compile_51 : decode cX9_compile 51 = .ok (.getfield 67, 3) := by decide +kernel
theorem dX9_compile_54 : decode cX9_compile 54 = .ok (.aload_n 3, 1) := by decide +kernel
theorem dX9_compile_55 : decode cX9_compile 55 = .ok (.invokevirtual 147, 3) := by decide +kernel
theorem dX9_compile_58 : decode cX9_compile 58 = .ok (.aload_n 0, 1) := by decide +kernel
theorem dX9_compile_59 : decode cX9_compile 59 = .ok (.dup, 1) := by decide +kernel
theorem dX9_compile_60 : decode cX9_compile 60 = .ok (.getfield 151, 3) := by decide +kernel
theorem dX9_compile_63 : decode cX9_compile 63 = .ok (.iconst 1, 1) := by decide +kernel
theorem dX9_compile_64 : decode cX9_compile 64 = .ok (.iadd, 1) := by decide +kernel
theorem dX9_compile_65 : decode cX9_compile 65 = .ok (.putfield 151, 3) := by decide +kernel
theorem dX9_compile_68 : decode cX9_compile 68 = .ok (.iconst 1, 1) := by decide +kernel
theorem dX9_compile_69 : decode cX9_compile 69 = .ok (.ireturn, 1) := by decide +kernel
theorem dX9_compiled_0 : decode cX9_compiled 0 = .ok (.aload_n 0, 1) := by decide +kernel
theorem dX9_compiled_1 : decode cX9_compiled 1 = .ok (.getfield 151, 3) := by decide +kernel
theorem dX9_compiled_4 : decode cX9_compiled 4 = .ok (.ireturn, 1) := by decide +kernel
theorem dX9_addTest_0 : decode cX9_addTest 0 = .ok (.aload_n 0, 1) := by decide +kernel
theorem dX9_addTest_1 : decode cX9_addTest 1 = .ok (.iload_n 1, 1) := by decide +kernel
theorem dX9_addTest_2 : decode cX9_addTest 2 = .ok (.invokevirtual 92, 3) := by decide +kernel
theorem dX9_addTest_5 : decode cX9_addTest 5 = .ok (.iload_n 2, 1) := by decide +kernel
theorem dX9_addTest_6 : decode cX9_addTest 6 = .ok (.iconst 1, 1) := by decide +kernel
theorem dX9_addTest_7 : decode cX9_addTest 7 = .ok (.bipush 60, 2) := by decide +kernel
theorem dX9_addTest_9 : decode cX9_addTest 9 = .ok (.invokestatic 71, 3) := by decide +kernel
theorem dX9_addTest_12 : decode cX9_addTest 12 = .ok (.ifCond .ne 13, 3) := by decide +kernel
theorem dX9_addTest_15 : decode cX9_addTest 15 = .ok (.new 75, 3) := by decide +kernel
theorem dX9_addTest_18 : decode cX9_addTest 18 = .ok (.dup, 1) := by decide +kernel
theorem dX9_addTest_19 : decode cX9_addTest 19 = .ok (.ldc 154, 2) := by decide +kernel
theorem dX9_addTest_21 : decode cX9_addTest 21 = .ok (.invokespecial 79, 3) := by decide +kernel
theorem dX9_addTest_24 : decode cX9_addTest 24 = .ok (.athrow, 1) := by decide +kernel
theorem dX9_addTest_25 : decode cX9_addTest 25 = .ok (.aload_n 0, 1) := by decide +kernel
theorem dX9_addTest_26 : decode cX9_addTest 26 = .ok (.getfield 16, 3) := by decide +kernel
theorem dX9_addTest_29 : decode cX9_addTest 29 = .ok (.invokevirtual 44, 3) := by decide +kernel
theorem dX9_addTest_32 : decode cX9_addTest 32 = .ok (.bipush 8, 2) := by decide +kernel
theorem dX9_addTest_34 : decode cX9_addTest 34 = .ok (.if_icmp .lt 13, 3) := by decide +kernel
theorem dX9_addTest_37 : decode cX9_addTest 37 = .ok (.new 48, 3) := by decide +kernel
theorem dX9_addTest_40 : decode cX9_addTest 40 = .ok (.dup, 1) := by decide +kernel
theorem dX9_addTest_41 : decode cX9_addTest 41 = .ok (.ldc 156, 2) := by decide +kernel
theorem dX9_addTest_43 : decode cX9_addTest 43 = .ok (.invokespecial 52, 3) := by decide +kernel
theorem dX9_addTest_46 : decode cX9_addTest 46 = .ok (.athrow, 1) := by decide +kernel
theorem dX9_addTest_47 : decode cX9_addTest 47 = .ok (.aload_n 0, 1) := by decide +kernel
theorem dX9_addTest_48 : decode cX9_addTest 48 = .ok (.getfield 16, 3) := by decide +kernel
theorem dX9_addTest_51 : decode cX9_addTest 51 = .ok (.new 158, 3) := by decide +kernel
theorem dX9_addTest_54 : decode cX9_addTest 54 = .ok (.dup, 1) := by decide +kernel
theorem dX9_addTest_55 : decode cX9_addTest 55 = .ok (.iload_n 1, 1) := by decide +kernel
theorem dX9_addTest_56 : decode cX9_addTest 56 = .ok (.iload_n 2, 1) := by decide +kernel
theorem dX9_addTest_57 : decode cX9_addTest 57 = .ok (.invokespecial 160, 3) := by decide +kernel
theorem dX9_addTest_60 : decode cX9_addTest 60 = .ok (.invokevirtual 59, 3) := by decide +kernel
theorem dX9_addTest_63 : decode cX9_addTest 63 = .ok (.pop, 1) := by decide +kernel
theorem dX9_addTest_64 : decode cX9_addTest 64 = .ok (.aload_n 0, 1) := by decide +kernel
theorem dX9_addTest_65 : decode cX9_addTest 65 = .ok (.getfield 16, 3) := by decide +kernel
theorem dX9_addTest_68 : decode cX9_addTest 68 = .ok (.invokevirtual 44, 3) := by decide +kernel
theorem dX9_addTest_71 : decode cX9_addTest 71 = .ok (.iconst 1, 1) := by decide +kernel
theorem dX9_addTest_72 : decode cX9_addTest 72 = .ok (.isub, 1) := by decide +kernel
theorem dX9_addTest_73 : decode cX9_addTest 73 = .ok (.ireturn, 1) := by decide +kernel
theorem dX9_setFailing_0 : decode cX9_setFailing 0 = .ok (.aload_n 0, 1) := by decide +kernel
theorem dX9_setFailing_1 : decode cX9_setFailing 1 = .ok (.iload_n 1, 1) := by decide +kernel
theorem dX9_setFailing_2 : decode cX9_setFailing 2 = .ok (.invokevirtual 163, 3) := by decide +kernel
theorem dX9_setFailing_5 : decode cX9_setFailing 5 = .ok (.astore_n 3, 1) := by decide +kernel
theorem dX9_setFailing_6 : decode cX9_setFailing 6 = .ok (.aload_n 3, 1) := by decide +kernel
theorem dX9_setFailing_7 : decode cX9_setFailing 7 = .ok (.getfield 167, 3) := by decide +kernel
theorem dX9_setFailing_10 : decode cX9_setFailing 10 = .ok (.istore 4, 2) := by decide +kernel
theorem dX9_setFailing_12 : decode cX9_setFailing 12 = .ok (.aload_n 3, 1) := by decide +kernel
theorem dX9_setFailing_13 : decode cX9_setFailing 13 = .ok (.iload_n 2, 1) := by decide +kernel
theorem dX9_setFailing_14 : decode cX9_setFailing 14 = .ok (.putfield 167, 3) := by decide +kernel
theorem dX9_setFailing_17 : decode cX9_setFailing 17 = .ok (.iload 4, 2) := by decide +kernel
theorem dX9_setFailing_19 : decode cX9_setFailing 19 = .ok (.ireturn, 1) := by decide +kernel
theorem dX9_setMachines_0 : decode cX9_setMachines 0 = .ok (.iload_n 1, 1) := by decide +kernel
theorem dX9_setMachines_1 : decode cX9_setMachines 1 = .ok (.iconst 1, 1) := by decide +kernel
theorem dX9_setMachines_2 : decode cX9_setMachines 2 = .ok (.iconst 4, 1) := by decide +kernel
theorem dX9_setMachines_3 : decode cX9_setMachines 3 = .ok (.invokestatic 71, 3) := by decide +kernel
theorem dX9_setMachines_6 : decode cX9_setMachines 6 = .ok (.ifCond .ne 13, 3) := by decide +kernel
theorem dX9_setMachines_9 : decode cX9_setMachines 9 = .ok (.new 75, 3) := by decide +kernel
theorem dX9_setMachines_12 : decode cX9_setMachines 12 = .ok (.dup, 1) := by decide +kernel
theorem dX9_setMachines_13 : decode cX9_setMachines 13 = .ok (.ldc 171, 2) := by decide +kernel
theorem dX9_setMachines_15 : decode cX9_setMachines 15 = .ok (.invokespecial 79, 3) := by decide +kernel
theorem dX9_setMachines_18 : decode cX9_setMachines 18 = .ok (.athrow, 1) := by decide +kernel
theorem dX9_setMachines_19 : decode cX9_setMachines 19 = .ok (.aload_n 0, 1) := by decide +kernel
theorem dX9_setMachines_20 : decode cX9_setMachines 20 = .ok (.getfield 36, 3) := by decide +kernel
theorem dX9_setMachines_23 : decode cX9_setMachines 23 = .ok (.istore_n 2, 1) := by decide +kernel
theorem dX9_setMachines_24 : decode cX9_setMachines 24 = .ok (.aload_n 0, 1) := by decide +kernel
theorem dX9_setMachines_25 : decode cX9_setMachines 25 = .ok (.iload_n 1, 1) := by decide +kernel
theorem dX9_setMachines_26 : decode cX9_setMachines 26 = .ok (.putfield 36, 3) := by decide +kernel
theorem dX9_setMachines_29 : decode cX9_setMachines 29 = .ok (.iload_n 2, 1) := by decide +kernel
theorem dX9_setMachines_30 : decode cX9_setMachines 30 = .ok (.ireturn, 1) := by decide +kernel
theorem dX9_fund_0 : decode cX9_fund 0 = .ok (.iload_n 1, 1) := by decide +kernel
theorem dX9_fund_1 : decode cX9_fund 1 = .ok (.invokestatic 40, 3) := by decide +kernel
theorem dX9_fund_4 : decode cX9_fund 4 = .ok (.iload_n 2, 1) := by decide +kernel
theorem dX9_fund_5 : decode cX9_fund 5 = .ok (.iconst 1, 1) := by decide +kernel
theorem dX9_fund_6 : decode cX9_fund 6 = .ok (.sipush 9999, 3) := by decide +kernel
theorem dX9_fund_9 : decode cX9_fund 9 = .ok (.invokestatic 71, 3) := by decide +kernel
theorem dX9_fund_12 : decode cX9_fund 12 = .ok (.ifCond .ne 13, 3) := by decide +kernel
theorem dX9_fund_15 : decode cX9_fund 15 = .ok (.new 75, 3) := by decide +kernel
theorem dX9_fund_18 : decode cX9_fund 18 = .ok (.dup, 1) := by decide +kernel
theorem dX9_fund_19 : decode cX9_fund 19 = .ok (.ldc 173, 2) := by decide +kernel
theorem dX9_fund_21 : decode cX9_fund 21 = .ok (.invokespecial 79, 3) := by decide +kernel
theorem dX9_fund_24 : decode cX9_fund 24 = .ok (.athrow, 1) := by decide +kernel
theorem dX9_fund_25 : decode cX9_fund 25 = .ok (.aload_n 0, 1) := by decide +kernel
theorem dX9_fund_26 : decode cX9_fund 26 = .ok (.getfield 29, 3) := by decide +kernel
theorem dX9_fund_29 : decode cX9_fund 29 = .ok (.iload_n 1, 1) := by decide +kernel
theorem dX9_fund_30 : decode cX9_fund 30 = .ok (.dup2, 1) := by decide +kernel
theorem dX9_fund_31 : decode cX9_fund 31 = .ok (.iaload, 1) := by decide +kernel
theorem dX9_fund_32 : decode cX9_fund 32 = .ok (.iload_n 2, 1) := by decide +kernel
theorem dX9_fund_33 : decode cX9_fund 33 = .ok (.iadd, 1) := by decide +kernel
theorem dX9_fund_34 : decode cX9_fund 34 = .ok (.iastore, 1) := by decide +kernel
theorem dX9_fund_35 : decode cX9_fund 35 = .ok (.aload_n 0, 1) := by decide +kernel
theorem dX9_fund_36 : decode cX9_fund 36 = .ok (.getfield 29, 3) := by decide +kernel
theorem dX9_fund_39 : decode cX9_fund 39 = .ok (.iload_n 1, 1) := by decide +kernel
theorem dX9_fund_40 : decode cX9_fund 40 = .ok (.iaload, 1) := by decide +kernel
theorem dX9_fund_41 : decode cX9_fund 41 = .ok (.ireturn, 1) := by decide +kernel
theorem dX9_budget_0 : decode cX9_budget 0 = .ok (.iload_n 1, 1) := by decide +kernel
theorem dX9_budget_1 : decode cX9_budget 1 = .ok (.invokestatic 40, 3) := by decide +kernel
theorem dX9_budget_4 : decode cX9_budget 4 = .ok (.aload_n 0, 1) := by decide +kernel
theorem dX9_budget_5 : decode cX9_budget 5 = .ok (.getfield 29, 3) := by decide +kernel
theorem dX9_budget_8 : decode cX9_budget 8 = .ok (.iload_n 1, 1) := by decide +kernel
theorem dX9_budget_9 : decode cX9_budget 9 = .ok (.iaload, 1) := by decide +kernel
theorem dX9_budget_10 : decode cX9_budget 10 = .ok (.ireturn, 1) := by decide +kernel
theorem dX9_testTime_0 : decode cX9_testTime 0 = .ok (.aload_n 0, 1) := by decide +kernel
theorem dX9_testTime_1 : decode cX9_testTime 1 = .ok (.iload_n 1, 1) := by decide +kernel
theorem dX9_testTime_2 : decode cX9_testTime 2 = .ok (.invokevirtual 92, 3) := by decide +kernel
theorem dX9_testTime_5 : decode cX9_testTime 5 = .ok (.aload_n 0, 1) := by decide +kernel
theorem dX9_testTime_6 : decode cX9_testTime 6 = .ok (.getfield 33, 3) := by decide +kernel
theorem dX9_testTime_9 : decode cX9_testTime 9 = .ok (.iconst 0, 1) := by decide +kernel
theorem dX9_testTime_10 : decode cX9_testTime 10 = .ok (.invokestatic 175, 3) := by decide +kernel
theorem dX9_testTime_13 : decode cX9_testTime 13 = .ok (.iconst 0, 1) := by decide +kernel
theorem dX9_testTime_14 : decode cX9_testTime 14 = .ok (.istore_n 2, 1) := by decide +kernel
theorem dX9_testTime_15 : decode cX9_testTime 15 = .ok (.bipush 60, 2) := by decide +kernel
theorem dX9_testTime_17 : decode cX9_testTime 17 = .ok (.istore_n 3, 1) := by decide +kernel
theorem dX9_testTime_18 : decode cX9_testTime 18 = .ok (.iload_n 3, 1) := by decide +kernel
theorem dX9_testTime_19 : decode cX9_testTime 19 = .ok (.ifCond .le 72, 3) := by decide +kernel
theorem dX9_testTime_22 : decode cX9_testTime 22 = .ok (.iconst 0, 1) := by decide +kernel
theorem dX9_testTime_23 : decode cX9_testTime 23 = .ok (.istore 4, 2) := by decide +kernel
theorem dX9_testTime_25 : decode cX9_testTime 25 = .ok (.iload 4, 2) := by decide +kernel
theorem dX9_testTime_27 : decode cX9_testTime 27 = .ok (.aload_n 0, 1) := by decide +kernel
theorem dX9_testTime_28 : decode cX9_testTime 28 = .ok (.getfield 16, 3) := by decide +kernel
theorem dX9_testTime_31 : decode cX9_testTime 31 = .ok (.invokevirtual 44, 3) := by decide +kernel
theorem dX9_testTime_34 : decode cX9_testTime 34 = .ok (.if_icmp .ge 51, 3) := by decide +kernel
theorem dX9_testTime_37 : decode cX9_testTime 37 = .ok (.aload_n 0, 1) := by decide +kernel
theorem dX9_testTime_38 : decode cX9_testTime 38 = .ok (.getfield 16, 3) := by decide +kernel
theorem dX9_testTime_41 : decode cX9_testTime 41 = .ok (.iload 4, 2) := by decide +kernel
theorem dX9_testTime_43 : decode cX9_testTime 43 = .ok (.invokevirtual 181, 3) := by decide +kernel
theorem dX9_testTime_46 : decode cX9_testTime 46 = .ok (.checkcast 158, 3) := by decide +kernel
theorem dX9_testTime_49 : decode cX9_testTime 49 = .ok (.astore 5, 2) := by decide +kernel
theorem dX9_testTime_51 : decode cX9_testTime 51 = .ok (.aload 5, 2) := by decide +kernel
theorem dX9_testTime_53 : decode cX9_testTime 53 = .ok (.getfield 185, 3) := by decide +kernel
theorem dX9_testTime_56 : decode cX9_testTime 56 = .ok (.iload_n 1, 1) := by decide +kernel
theorem dX9_testTime_57 : decode cX9_testTime 57 = .ok (.if_icmp .ne 22, 3) := by decide +kernel
theorem dX9_testTime_60 : decode cX9_testTime 60 = .ok (.aload 5, 2) := by decide +kernel
theorem dX9_testTime_62 : decode cX9_testTime 62 = .ok (.getfield 188, 3) := by decide +kernel
theorem dX9_testTime_65 : decode cX9_testTime 65 = .ok (.iload_n 3, 1) := by decide +kernel
theorem dX9_testTime_66 : decode cX9_testTime 66 = .ok (.if_icmp .ne 13, 3) := by decide +kernel
theorem dX9_testTime_69 : decode cX9_testTime 69 = .ok (.iload_n 2, 1) := by decide +kernel
theorem dX9_testTime_70 : decode cX9_testTime 70 = .ok (.aload_n 0, 1) := by decide +kernel
theorem dX9_testTime_71 : decode cX9_testTime 71 = .ok (.iload_n 3, 1) := by decide +kernel
theorem dX9_testTime_72 : decode cX9_testTime 72 = .ok (.invokevirtual 191, 3) := by decide +kernel
theorem dX9_testTime_75 : decode cX9_testTime 75 = .ok (.invokestatic 194, 3) := by decide +kernel
theorem dX9_testTime_78 : decode cX9_testTime 78 = .ok (.istore_n 2, 1) := by decide +kernel
theorem dX9_testTime_79 : decode cX9_testTime 79 = .ok (.iinc 4 1, 3) := by decide +kernel
theorem dX9_testTime_82 : decode cX9_testTime 82 = .ok (.goto (-57), 3) := by decide +kernel
theorem dX9_testTime_85 : decode cX9_testTime 85 = .ok (.iinc 3 (-1), 3) := by decide +kernel
theorem dX9_testTime_88 : decode cX9_testTime 88 = .ok (.goto (-70), 3) := by decide +kernel
theorem dX9_testTime_91 : decode cX9_testTime 91 = .ok (.iload_n 2, 1) := by decide +kernel
theorem dX9_testTime_92 : decode cX9_testTime 92 = .ok (.ireturn, 1) := by decide +kernel
theorem dX9_test_0 : decode cX9_test 0 = .ok (.aload_n 0, 1) := by decide +kernel
theorem dX9_test_1 : decode cX9_test 1 = .ok (.iload_n 1, 1) := by decide +kernel
theorem dX9_test_2 : decode cX9_test 2 = .ok (.invokevirtual 63, 3) := by decide +kernel
theorem dX9_test_5 : decode cX9_test 5 = .ok (.astore_n 2, 1) := by decide +kernel
theorem dX9_test_6 : decode cX9_test 6 = .ok (.aload_n 0, 1) := by decide +kernel
theorem dX9_test_7 : decode cX9_test 7 = .ok (.getfield 25, 3) := by decide +kernel
theorem dX9_test_10 : decode cX9_test 10 = .ok (.aload_n 0, 1) := by decide +kernel
theorem dX9_test_11 : decode cX9_test 11 = .ok (.getfield 10, 3) := by decide +kernel
theorem dX9_test_14 : decode cX9_test 14 = .ok (.iload_n 1, 1) := by decide +kernel
theorem dX9_test_15 : decode cX9_test 15 = .ok (.aload_n 2, 1) := by decide +kernel
theorem dX9_test_16 : decode cX9_test 16 = .ok (.getfield 67, 3) := by decide +kernel
theorem dX9_test_19 : decode cX9_test 19 = .ok (.getfield 88, 3) := by decide +kernel
theorem dX9_test_22 : decode cX9_test 22 = .ok (.invokevirtual 120, 3) := by decide +kernel
theorem dX9_test_25 : decode cX9_test 25 = .ok (.invokestatic 124, 3) := by decide +kernel
theorem dX9_test_28 : decode cX9_test 28 = .ok (.astore_n 3, 1) := by decide +kernel
theorem dX9_test_29 : decode cX9_test 29 = .ok (.aload_n 2, 1) := by decide +kernel
theorem dX9_test_30 : decode cX9_test 30 = .ok (.getfield 137, 3) := by decide +kernel
theorem dX9_test_33 : decode cX9_test 33 = .ok (.aload_n 2, 1) := by decide +kernel
theorem dX9_test_34 : decode cX9_test 34 = .ok (.getfield 67, 3) := by decide +kernel
theorem dX9_test_37 : decode cX9_test 37 = .ok (.aload_n 3, 1) := by decide +kernel
theorem dX9_test_38 : decode cX9_test 38 = .ok (.invokevirtual 141, 3) := by decide +kernel
theorem dX9_test_41 : decode cX9_test 41 = .ok (.ifCond .ne 13, 3) := by decide +kernel
theorem dX9_test_44 : decode cX9_test 44 = .ok (.new 48, 3) := by decide +kernel
theorem dX9_test_47 : decode cX9_test 47 = .ok (.dup, 1) := by decide +kernel
theorem dX9_test_48 : decode cX9_test 48 = .ok (.ldc 200, 2) := by decide +kernel
theorem dX9_test_50 : decode cX9_test 50 = .ok (.invokespecial 52, 3) := by decide +kernel
theorem dX9_test_53 : decode cX9_test 53 = .ok (.athrow, 1) := by decide +kernel
theorem dX9_test_54 : decode cX9_test 54 = .ok (.aload_n 0, 1) := by decide +kernel
theorem dX9_test_55 : decode cX9_test 55 = .ok (.aload_n 2, 1) := by decide +kernel
theorem dX9_test_56 : decode cX9_test 56 = .ok (.getfield 202, 3) := by decide +kernel
theorem dX9_test_59 : decode cX9_test 59 = .ok (.aload_n 0, 1) := by decide +kernel
theorem dX9_test_60 : decode cX9_test 60 = .ok (.iload_n 1, 1) := by decide +kernel
theorem dX9_test_61 : decode cX9_test 61 = .ok (.invokevirtual 205, 3) := by decide +kernel
theorem dX9_test_64 : decode cX9_test 64 = .ok (.invokevirtual 208, 3) := by decide +kernel
theorem dX9_test_67 : decode cX9_test 67 = .ok (.ifCond .ne 13, 3) := by decide +kernel
theorem dX9_test_70 : decode cX9_test 70 = .ok (.new 48, 3) := by decide +kernel
theorem dX9_test_73 : decode cX9_test 73 = .ok (.dup, 1) := by decide +kernel
theorem dX9_test_74 : decode cX9_test 74 = .ok (.ldc 212, 2) := by decide +kernel
theorem dX9_test_76 : decode cX9_test 76 = .ok (.invokespecial 52, 3) := by decide +kernel
theorem dX9_test_79 : decode cX9_test 79 = .ok (.athrow, 1) := by decide +kernel
theorem dX9_test_80 : decode cX9_test 80 = .ok (.aload_n 0, 1) := by decide +kernel
theorem dX9_test_81 : decode cX9_test 81 = .ok (.iload_n 1, 1) := by decide +kernel
theorem dX9_test_82 : decode cX9_test 82 = .ok (.invokevirtual 214, 3) := by decide +kernel
theorem dX9_test_85 : decode cX9_test 85 = .ok (.istore 4, 2) := by decide +kernel
theorem dX9_test_87 : decode cX9_test 87 = .ok (.aload_n 2, 1) := by decide +kernel
theorem dX9_test_88 : decode cX9_test 88 = .ok (.getfield 217, 3) := by decide +kernel
theorem dX9_test_91 : decode cX9_test 91 = .ok (.iload 4, 2) := by decide +kernel
theorem dX9_test_93 : decode cX9_test 93 = .ok (.ifCond .ne 7, 3) := by decide +kernel
theorem dX9_test_96 : decode cX9_test 96 = .ok (.iconst 1, 1) := by decide +kernel
theorem dX9_test_97 : decode cX9_test 97 = .ok (.goto 4, 3) := by decide +kernel
theorem dX9_test_100 : decode cX9_test 100 = .ok (.iconst 0, 1) := by decide +kernel
theorem dX9_test_101 : decode cX9_test 101 = .ok (.aload_n 2, 1) := by decide +kernel
theorem dX9_test_102 : decode cX9_test 102 = .ok (.getfield 67, 3) := by decide +kernel
theorem dX9_test_105 : decode cX9_test 105 = .ok (.aload_n 3, 1) := by decide +kernel
theorem dX9_test_106 : decode cX9_test 106 = .ok (.invokevirtual 221, 3) := by decide +kernel
theorem dX9_test_109 : decode cX9_test 109 = .ok (.iload 4, 2) := by decide +kernel
theorem dX9_test_111 : decode cX9_test 111 = .ok (.ireturn, 1) := by decide +kernel
theorem dX9_flaky_0 : decode cX9_flaky 0 = .ok (.aload_n 0, 1) := by decide +kernel
theorem dX9_flaky_1 : decode cX9_flaky 1 = .ok (.iload_n 1, 1) := by decide +kernel
theorem dX9_flaky_2 : decode cX9_flaky 2 = .ok (.invokevirtual 163, 3) := by decide +kernel
theorem dX9_flaky_5 : decode cX9_flaky 5 = .ok (.invokevirtual 226, 3) := by decide +kernel
theorem dX9_flaky_8 : decode cX9_flaky 8 = .ok (.ireturn, 1) := by decide +kernel
theorem dX9_flakiest_0 : decode cX9_flakiest 0 = .ok (.aload_n 0, 1) := by decide +kernel
theorem dX9_flakiest_1 : decode cX9_flakiest 1 = .ok (.getfield 16, 3) := by decide +kernel
theorem dX9_flakiest_4 : decode cX9_flakiest 4 = .ok (.invokevirtual 229, 3) := by decide +kernel
theorem dX9_flakiest_7 : decode cX9_flakiest 7 = .ok (.ifCond .eq 13, 3) := by decide +kernel
theorem dX9_flakiest_10 : decode cX9_flakiest 10 = .ok (.new 112, 3) := by decide +kernel
theorem dX9_flakiest_13 : decode cX9_flakiest 13 = .ok (.dup, 1) := by decide +kernel
theorem dX9_flakiest_14 : decode cX9_flakiest 14 = .ok (.ldc 233, 2) := by decide +kernel
theorem dX9_flakiest_16 : decode cX9_flakiest 16 = .ok (.invokespecial 116, 3) := by decide +kernel
theorem dX9_flakiest_19 : decode cX9_flakiest 19 = .ok (.athrow, 1) := by decide +kernel
theorem dX9_flakiest_20 : decode cX9_flakiest 20 = .ok (.iconst 0, 1) := by decide +kernel
theorem dX9_flakiest_21 : decode cX9_flakiest 21 = .ok (.istore_n 1, 1) := by decide +kernel
theorem dX9_flakiest_22 : decode cX9_flakiest 22 = .ok (.iconst (-1), 1) := by decide +kernel
theorem dX9_flakiest_23 : decode cX9_flakiest 23 = .ok (.istore_n 2, 1) := by decide +kernel
theorem dX9_flakiest_24 : decode cX9_flakiest 24 = .ok (.iconst 0, 1) := by decide +kernel
theorem dX9_flakiest_25 : decode cX9_flakiest 25 = .ok (.istore_n 3, 1) := by decide +kernel
theorem dX9_flakiest_26 : decode cX9_flakiest 26 = .ok (.iload_n 3, 1) := by decide +kernel
theorem dX9_flakiest_27 : decode cX9_flakiest 27 = .ok (.aload_n 0, 1) := by decide +kernel
theorem dX9_flakiest_28 : decode cX9_flakiest 28 = .ok (.getfield 16, 3) := by decide +kernel
theorem dX9_flakiest_31 : decode cX9_flakiest 31 = .ok (.invokevirtual 44, 3) := by decide +kernel
theorem dX9_flakiest_34 : decode cX9_flakiest 34 = .ok (.if_icmp .ge 36, 3) := by decide +kernel
theorem dX9_flakiest_37 : decode cX9_flakiest 37 = .ok (.aload_n 0, 1) := by decide +kernel
theorem dX9_flakiest_38 : decode cX9_flakiest 38 = .ok (.getfield 16, 3) := by decide +kernel
theorem dX9_flakiest_41 : decode cX9_flakiest 41 = .ok (.iload_n 3, 1) := by decide +kernel
theorem dX9_flakiest_42 : decode cX9_flakiest 42 = .ok (.invokevirtual 181, 3) := by decide +kernel
theorem dX9_flakiest_45 : decode cX9_flakiest 45 = .ok (.checkcast 158, 3) := by decide +kernel
theorem dX9_flakiest_48 : decode cX9_flakiest 48 = .ok (.invokevirtual 226, 3) := by decide +kernel
theorem dX9_flakiest_51 : decode cX9_flakiest 51 = .ok (.istore 4, 2) := by decide +kernel
theorem dX9_flakiest_53 : decode cX9_flakiest 53 = .ok (.iload 4, 2) := by decide +kernel
theorem dX9_flakiest_55 : decode cX9_flakiest 55 = .ok (.iload_n 2, 1) := by decide +kernel
theorem dX9_flakiest_56 : decode cX9_flakiest 56 = .ok (.if_icmp .le 8, 3) := by decide +kernel
theorem dX9_flakiest_59 : decode cX9_flakiest 59 = .ok (.iload 4, 2) := by decide +kernel
theorem dX9_flakiest_61 : decode cX9_flakiest 61 = .ok (.istore_n 2, 1) := by decide +kernel
theorem dX9_flakiest_62 : decode cX9_flakiest 62 = .ok (.iload_n 3, 1) := by decide +kernel
theorem dX9_flakiest_63 : decode cX9_flakiest 63 = .ok (.istore_n 1, 1) := by decide +kernel
theorem dX9_flakiest_64 : decode cX9_flakiest 64 = .ok (.iinc 3 1, 3) := by decide +kernel
theorem dX9_flakiest_67 : decode cX9_flakiest 67 = .ok (.goto (-41), 3) := by decide +kernel
theorem dX9_flakiest_70 : decode cX9_flakiest 70 = .ok (.iload_n 1, 1) := by decide +kernel
theorem dX9_flakiest_71 : decode cX9_flakiest 71 = .ok (.ireturn, 1) := by decide +kernel
theorem dX9_canPublish_0 : decode cX9_canPublish 0 = .ok (.aload_n 0, 1) := by decide +kernel
theorem dX9_canPublish_1 : decode cX9_canPublish 1 = .ok (.iload_n 1, 1) := by decide +kernel
theorem dX9_canPublish_2 : decode cX9_canPublish 2 = .ok (.invokevirtual 63, 3) := by decide +kernel
theorem dX9_canPublish_5 : decode cX9_canPublish 5 = .ok (.astore_n 2, 1) := by decide +kernel
theorem dX9_canPublish_6 : decode cX9_canPublish 6 = .ok (.aload_n 2, 1) := by decide +kernel
theorem dX9_canPublish_7 : decode cX9_canPublish 7 = .ok (.aload_n 0, 1) := by decide +kernel
theorem dX9_canPublish_8 : decode cX9_canPublish 8 = .ok (.getfield 25, 3) := by decide +kernel
theorem dX9_canPublish_11 : decode cX9_canPublish 11 = .ok (.aload_n 0, 1) := by decide +kernel
theorem dX9_canPublish_12 : decode cX9_canPublish 12 = .ok (.getfield 10, 3) := by decide +kernel
theorem dX9_canPublish_15 : decode cX9_canPublish 15 = .ok (.iload_n 1, 1) := by decide +kernel
theorem dX9_canPublish_16 : decode cX9_canPublish 16 = .ok (.aload_n 2, 1) := by decide +kernel
theorem dX9_canPublish_17 : decode cX9_canPublish 17 = .ok (.getfield 67, 3) := by decide +kernel
theorem dX9_canPublish_20 : decode cX9_canPublish 20 = .ok (.getfield 88, 3) := by decide +kernel
theorem dX9_canPublish_23 : decode cX9_canPublish 23 = .ok (.invokevirtual 120, 3) := by decide +kernel
theorem dX9_canPublish_26 : decode cX9_canPublish 26 = .ok (.invokevirtual 235, 3) := by decide +kernel
theorem dX9_canPublish_29 : decode cX9_canPublish 29 = .ok (.ireturn, 1) := by decide +kernel
theorem dX9_nextVersion_0 : decode cX9_nextVersion 0 = .ok (.aload_n 0, 1) := by decide +kernel
theorem dX9_nextVersion_1 : decode cX9_nextVersion 1 = .ok (.iload_n 1, 1) := by decide +kernel
theorem dX9_nextVersion_2 : decode cX9_nextVersion 2 = .ok (.invokevirtual 63, 3) := by decide +kernel
theorem dX9_nextVersion_5 : decode cX9_nextVersion 5 = .ok (.invokevirtual 239, 3) := by decide +kernel
theorem dX9_nextVersion_8 : decode cX9_nextVersion 8 = .ok (.ireturn, 1) := by decide +kernel
theorem dX9_publish_0 : decode cX9_publish 0 = .ok (.aload_n 0, 1) := by decide +kernel
theorem dX9_publish_1 : decode cX9_publish 1 = .ok (.iload_n 1, 1) := by decide +kernel
theorem dX9_publish_2 : decode cX9_publish 2 = .ok (.invokevirtual 63, 3) := by decide +kernel
theorem dX9_publish_5 : decode cX9_publish 5 = .ok (.astore_n 2, 1) := by decide +kernel
theorem dX9_publish_6 : decode cX9_publish 6 = .ok (.aload_n 0, 1) := by decide +kernel
theorem dX9_publish_7 : decode cX9_publish 7 = .ok (.getfield 25, 3) := by decide +kernel
theorem dX9_publish_10 : decode cX9_publish 10 = .ok (.aload_n 0, 1) := by decide +kernel
theorem dX9_publish_11 : decode cX9_publish 11 = .ok (.getfield 10, 3) := by decide +kernel
theorem dX9_publish_14 : decode cX9_publish 14 = .ok (.iload_n 1, 1) := by decide +kernel
theorem dX9_publish_15 : decode cX9_publish 15 = .ok (.aload_n 2, 1) := by decide +kernel
theorem dX9_publish_16 : decode cX9_publish 16 = .ok (.getfield 67, 3) := by decide +kernel
theorem dX9_publish_19 : decode cX9_publish 19 = .ok (.getfield 88, 3) := by decide +kernel
theorem dX9_publish_22 : decode cX9_publish 22 = .ok (.invokevirtual 120, 3) := by decide +kernel
theorem dX9_publish_25 : decode cX9_publish 25 = .ok (.invokestatic 124, 3) := by decide +kernel
theorem dX9_publish_28 : decode cX9_publish 28 = .ok (.astore_n 3, 1) := by decide +kernel
theorem dX9_publish_29 : decode cX9_publish 29 = .ok (.aload_n 2, 1) := by decide +kernel
theorem dX9_publish_30 : decode cX9_publish 30 = .ok (.aload_n 3, 1) := by decide +kernel
theorem dX9_publish_31 : decode cX9_publish 31 = .ok (.invokevirtual 235, 3) := by decide +kernel
theorem dX9_publish_34 : decode cX9_publish 34 = .ok (.ifCond .ne 13, 3) := by decide +kernel
theorem dX9_publish_37 : decode cX9_publish 37 = .ok (.new 242, 3) := by decide +kernel
theorem dX9_publish_40 : decode cX9_publish 40 = .ok (.dup, 1) := by decide +kernel
theorem dX9_publish_41 : decode cX9_publish 41 = .ok (.ldc 244, 2) := by decide +kernel
theorem dX9_publish_43 : decode cX9_publish 43 = .ok (.invokespecial 246, 3) := by decide +kernel
theorem dX9_publish_46 : decode cX9_publish 46 = .ok (.athrow, 1) := by decide +kernel
theorem dX9_publish_47 : decode cX9_publish 47 = .ok (.aload_n 2, 1) := by decide +kernel
theorem dX9_publish_48 : decode cX9_publish 48 = .ok (.invokevirtual 239, 3) := by decide +kernel
theorem dX9_publish_51 : decode cX9_publish 51 = .ok (.istore 4, 2) := by decide +kernel
theorem dX9_publish_53 : decode cX9_publish 53 = .ok (.iload 4, 2) := by decide +kernel
theorem dX9_publish_55 : decode cX9_publish 55 = .ok (.sipush 999, 3) := by decide +kernel
theorem dX9_publish_58 : decode cX9_publish 58 = .ok (.if_icmp .le 13, 3) := by decide +kernel
theorem dX9_publish_61 : decode cX9_publish 61 = .ok (.new 242, 3) := by decide +kernel
theorem dX9_publish_64 : decode cX9_publish 64 = .ok (.dup, 1) := by decide +kernel
theorem dX9_publish_65 : decode cX9_publish 65 = .ok (.ldc 247, 2) := by decide +kernel
theorem dX9_publish_67 : decode cX9_publish 67 = .ok (.invokespecial 246, 3) := by decide +kernel
theorem dX9_publish_70 : decode cX9_publish 70 = .ok (.athrow, 1) := by decide +kernel
theorem dX9_publish_71 : decode cX9_publish 71 = .ok (.aload_n 0, 1) := by decide +kernel
theorem dX9_publish_72 : decode cX9_publish 72 = .ok (.getfield 19, 3) := by decide +kernel
theorem dX9_publish_75 : decode cX9_publish 75 = .ok (.invokevirtual 44, 3) := by decide +kernel
theorem dX9_publish_78 : decode cX9_publish 78 = .ok (.bipush 20, 2) := by decide +kernel
theorem dX9_publish_80 : decode cX9_publish 80 = .ok (.if_icmp .lt 13, 3) := by decide +kernel
theorem dX9_publish_83 : decode cX9_publish 83 = .ok (.new 48, 3) := by decide +kernel
theorem dX9_publish_86 : decode cX9_publish 86 = .ok (.dup, 1) := by decide +kernel
theorem dX9_publish_87 : decode cX9_publish 87 = .ok (.ldc 249, 2) := by decide +kernel
theorem dX9_publish_89 : decode cX9_publish 89 = .ok (.invokespecial 52, 3) := by decide +kernel
theorem dX9_publish_92 : decode cX9_publish 92 = .ok (.athrow, 1) := by decide +kernel
theorem dX9_publish_93 : decode cX9_publish 93 = .ok (.new 251, 3) := by decide +kernel
theorem dX9_publish_96 : decode cX9_publish 96 = .ok (.dup, 1) := by decide +kernel
theorem dX9_publish_97 : decode cX9_publish 97 = .ok (.iload 4, 2) := by decide +kernel
theorem dX9_publish_99 : decode cX9_publish 99 = .ok (.aload_n 2, 1) := by decide +kernel
theorem dX9_publish_100 : decode cX9_publish 100 = .ok (.getfield 67, 3) := by decide +kernel
theorem dX9_publish_103 : decode cX9_publish 103 = .ok (.aload_n 3, 1) := by decide +kernel
theorem dX9_publish_104 : decode cX9_publish 104 = .ok (.invokespecial 253, 3) := by decide +kernel
theorem dX9_publish_107 : decode cX9_publish 107 = .ok (.astore 5, 2) := by decide +kernel
theorem dX9_publish_109 : decode cX9_publish 109 = .ok (.aload_n 2, 1) := by decide +kernel
theorem dX9_publish_110 : decode cX9_publish 110 = .ok (.getfield 256, 3) := by decide +kernel
theorem dX9_publish_113 : decode cX9_publish 113 = .ok (.aload 5, 2) := by decide +kernel
theorem dX9_publish_115 : decode cX9_publish 115 = .ok (.invokevirtual 59, 3) := by decide +kernel
theorem dX9_publish_118 : decode cX9_publish 118 = .ok (.pop, 1) := by decide +kernel
theorem dX9_publish_119 : decode cX9_publish 119 = .ok (.aload_n 0, 1) := by decide +kernel
theorem dX9_publish_120 : decode cX9_publish 120 = .ok (.getfield 19, 3) := by decide +kernel
theorem dX9_publish_123 : decode cX9_publish 123 = .ok (.aload 5, 2) := by decide +kernel
theorem dX9_publish_125 : decode cX9_publish 125 = .ok (.invokevirtual 59, 3) := by decide +kernel
theorem dX9_publish_128 : decode cX9_publish 128 = .ok (.pop, 1) := by decide +kernel
theorem dX9_publish_129 : decode cX9_publish 129 = .ok (.iload 4, 2) := by decide +kernel
theorem dX9_publish_131 : decode cX9_publish 131 = .ok (.ireturn, 1) := by decide +kernel
theorem dX9_yank_0 : decode cX9_yank 0 = .ok (.aload_n 0, 1) := by decide +kernel
theorem dX9_yank_1 : decode cX9_yank 1 = .ok (.iload_n 1, 1) := by decide +kernel
theorem dX9_yank_2 : decode cX9_yank 2 = .ok (.iload_n 2, 1) := by decide +kernel
theorem dX9_yank_3 : decode cX9_yank 3 = .ok (.invokevirtual 257, 3) := by decide +kernel
theorem dX9_yank_6 : decode cX9_yank 6 = .ok (.astore_n 3, 1) := by decide +kernel
theorem dX9_yank_7 : decode cX9_yank 7 = .ok (.aload_n 3, 1) := by decide +kernel
theorem dX9_yank_8 : decode cX9_yank 8 = .ok (.invokestatic 261, 3) := by decide +kernel
theorem dX9_yank_11 : decode cX9_yank 11 = .ok (.aload_n 3, 1) := by decide +kernel
theorem dX9_yank_12 : decode cX9_yank 12 = .ok (.iconst 1, 1) := by decide +kernel
theorem dX9_yank_13 : decode cX9_yank 13 = .ok (.putfield 265, 3) := by decide +kernel
theorem dX9_yank_16 : decode cX9_yank 16 = .ok (.aload_n 0, 1) := by decide +kernel
theorem dX9_yank_17 : decode cX9_yank 17 = .ok (.invokevirtual 268, 3) := by decide +kernel
theorem dX9_yank_20 : decode cX9_yank 20 = .ok (.ireturn, 1) := by decide +kernel
theorem dX9_isStale_0 : decode cX9_isStale 0 = .ok (.aload_n 0, 1) := by decide +kernel
theorem dX9_isStale_1 : decode cX9_isStale 1 = .ok (.iload_n 1, 1) := by decide +kernel
theorem dX9_isStale_2 : decode cX9_isStale 2 = .ok (.iload_n 2, 1) := by decide +kernel
theorem dX9_isStale_3 : decode cX9_isStale 3 = .ok (.invokevirtual 257, 3) := by decide +kernel
theorem dX9_isStale_6 : decode cX9_isStale 6 = .ok (.invokevirtual 271, 3) := by decide +kernel
theorem dX9_isStale_9 : decode cX9_isStale 9 = .ok (.ireturn, 1) := by decide +kernel
theorem dX9_relock_0 : decode cX9_relock 0 = .ok (.aload_n 0, 1) := by decide +kernel
theorem dX9_relock_1 : decode cX9_relock 1 = .ok (.iload_n 1, 1) := by decide +kernel
theorem dX9_relock_2 : decode cX9_relock 2 = .ok (.iload_n 2, 1) := by decide +kernel
theorem dX9_relock_3 : decode cX9_relock 3 = .ok (.invokevirtual 257, 3) := by decide +kernel
theorem dX9_relock_6 : decode cX9_relock 6 = .ok (.astore_n 3, 1) := by decide +kernel
theorem dX9_relock_7 : decode cX9_relock 7 = .ok (.aload_n 3, 1) := by decide +kernel
theorem dX9_relock_8 : decode cX9_relock 8 = .ok (.invokestatic 261, 3) := by decide +kernel
theorem dX9_relock_11 : decode cX9_relock 11 = .ok (.aload_n 0, 1) := by decide +kernel
theorem dX9_relock_12 : decode cX9_relock 12 = .ok (.getfield 25, 3) := by decide +kernel
theorem dX9_relock_15 : decode cX9_relock 15 = .ok (.aload_n 0, 1) := by decide +kernel
theorem dX9_relock_16 : decode cX9_relock 16 = .ok (.getfield 10, 3) := by decide +kernel
theorem dX9_relock_19 : decode cX9_relock 19 = .ok (.iload_n 1, 1) := by decide +kernel
theorem dX9_relock_20 : decode cX9_relock 20 = .ok (.aload_n 3, 1) := by decide +kernel
theorem dX9_relock_21 : decode cX9_relock 21 = .ok (.getfield 274, 3) := by decide +kernel
theorem dX9_relock_24 : decode cX9_relock 24 = .ok (.invokevirtual 120, 3) := by decide +kernel
theorem dX9_relock_27 : decode cX9_relock 27 = .ok (.invokestatic 124, 3) := by decide +kernel
theorem dX9_relock_30 : decode cX9_relock 30 = .ok (.astore 4, 2) := by decide +kernel
theorem dX9_relock_32 : decode cX9_relock 32 = .ok (.aload_n 3, 1) := by decide +kernel
theorem dX9_relock_33 : decode cX9_relock 33 = .ok (.getfield 275, 3) := by decide +kernel
theorem dX9_relock_36 : decode cX9_relock 36 = .ok (.aload 4, 2) := by decide +kernel
theorem dX9_relock_38 : decode cX9_relock 38 = .ok (.invokevirtual 279, 3) := by decide +kernel
theorem dX9_relock_41 : decode cX9_relock 41 = .ok (.istore 5, 2) := by decide +kernel
theorem dX9_relock_43 : decode cX9_relock 43 = .ok (.aload_n 3, 1) := by decide +kernel
theorem dX9_relock_44 : decode cX9_relock 44 = .ok (.getfield 275, 3) := by decide +kernel
theorem dX9_relock_47 : decode cX9_relock 47 = .ok (.aload 4, 2) := by decide +kernel
theorem dX9_relock_49 : decode cX9_relock 49 = .ok (.invokevirtual 283, 3) := by decide +kernel
theorem dX9_relock_52 : decode cX9_relock 52 = .ok (.iload 5, 2) := by decide +kernel
theorem dX9_relock_54 : decode cX9_relock 54 = .ok (.ireturn, 1) := by decide +kernel
theorem dX9_locked_0 : decode cX9_locked 0 = .ok (.aload_n 0, 1) := by decide +kernel
theorem dX9_locked_1 : decode cX9_locked 1 = .ok (.iload_n 3, 1) := by decide +kernel
theorem dX9_locked_2 : decode cX9_locked 2 = .ok (.invokevirtual 92, 3) := by decide +kernel
theorem dX9_locked_5 : decode cX9_locked 5 = .ok (.aload_n 0, 1) := by decide +kernel
theorem dX9_locked_6 : decode cX9_locked 6 = .ok (.iload_n 1, 1) := by decide +kernel
theorem dX9_locked_7 : decode cX9_locked 7 = .ok (.iload_n 2, 1) := by decide +kernel
theorem dX9_locked_8 : decode cX9_locked 8 = .ok (.invokevirtual 257, 3) := by decide +kernel
theorem dX9_locked_11 : decode cX9_locked 11 = .ok (.getfield 275, 3) := by decide +kernel
theorem dX9_locked_14 : decode cX9_locked 14 = .ok (.iload_n 3, 1) := by decide +kernel
theorem dX9_locked_15 : decode cX9_locked 15 = .ok (.invokevirtual 128, 3) := by decide +kernel
theorem dX9_locked_18 : decode cX9_locked 18 = .ok (.ireturn, 1) := by decide +kernel
theorem dX9_goodShare_0 : decode cX9_goodShare 0 = .ok (.aload_n 0, 1) := by decide +kernel
theorem dX9_goodShare_1 : decode cX9_goodShare 1 = .ok (.getfield 19, 3) := by decide +kernel
theorem dX9_goodShare_4 : decode cX9_goodShare 4 = .ok (.invokevirtual 229, 3) := by decide +kernel
theorem dX9_goodShare_7 : decode cX9_goodShare 7 = .ok (.ifCond .eq 14, 3) := by decide +kernel
theorem dX9_goodShare_10 : decode cX9_goodShare 10 = .ok (.new 287, 3) := by decide +kernel
theorem dX9_goodShare_13 : decode cX9_goodShare 13 = .ok (.dup, 1) := by decide +kernel
theorem dX9_goodShare_14 : decode cX9_goodShare 14 = .ok (.ldc_w 289, 3) := by decide +kernel
theorem dX9_goodShare_17 : decode cX9_goodShare 17 = .ok (.invokespecial 291, 3) := by decide +kernel
theorem dX9_goodShare_20 : decode cX9_goodShare 20 = .ok (.athrow, 1) := by decide +kernel
theorem dX9_goodShare_21 : decode cX9_goodShare 21 = .ok (.iconst 0, 1) := by decide +kernel
theorem dX9_goodShare_22 : decode cX9_goodShare 22 = .ok (.istore_n 1, 1) := by decide +kernel
theorem dX9_goodShare_23 : decode cX9_goodShare 23 = .ok (.iconst 0, 1) := by decide +kernel
theorem dX9_goodShare_24 : decode cX9_goodShare 24 = .ok (.istore_n 2, 1) := by decide +kernel
theorem dX9_goodShare_25 : decode cX9_goodShare 25 = .ok (.iload_n 2, 1) := by decide +kernel
theorem dX9_goodShare_26 : decode cX9_goodShare 26 = .ok (.aload_n 0, 1) := by decide +kernel
theorem dX9_goodShare_27 : decode cX9_goodShare 27 = .ok (.getfield 19, 3) := by decide +kernel
theorem dX9_goodShare_30 : decode cX9_goodShare 30 = .ok (.invokevirtual 44, 3) := by decide +kernel
theorem dX9_goodShare_33 : decode cX9_goodShare 33 = .ok (.if_icmp .ge 38, 3) := by decide +kernel
theorem dX9_goodShare_36 : decode cX9_goodShare 36 = .ok (.aload_n 0, 1) := by decide +kernel
theorem dX9_goodShare_37 : decode cX9_goodShare 37 = .ok (.getfield 19, 3) := by decide +kernel
theorem dX9_goodShare_40 : decode cX9_goodShare 40 = .ok (.iload_n 2, 1) := by decide +kernel
theorem dX9_goodShare_41 : decode cX9_goodShare 41 = .ok (.invokevirtual 181, 3) := by decide +kernel
theorem dX9_goodShare_44 : decode cX9_goodShare 44 = .ok (.checkcast 251, 3) := by decide +kernel
theorem dX9_goodShare_47 : decode cX9_goodShare 47 = .ok (.astore_n 3, 1) := by decide +kernel
theorem dX9_goodShare_48 : decode cX9_goodShare 48 = .ok (.aload_n 3, 1) := by decide +kernel
theorem dX9_goodShare_49 : decode cX9_goodShare 49 = .ok (.getfield 265, 3) := by decide +kernel
theorem dX9_goodShare_52 : decode cX9_goodShare 52 = .ok (.ifCond .ne 13, 3) := by decide +kernel
theorem dX9_goodShare_55 : decode cX9_goodShare 55 = .ok (.aload_n 3, 1) := by decide +kernel
theorem dX9_goodShare_56 : decode cX9_goodShare 56 = .ok (.invokevirtual 271, 3) := by decide +kernel
theorem dX9_goodShare_59 : decode cX9_goodShare 59 = .ok (.ifCond .ne 6, 3) := by decide +kernel
theorem dX9_goodShare_62 : decode cX9_goodShare 62 = .ok (.iinc 1 1, 3) := by decide +kernel
theorem dX9_goodShare_65 : decode cX9_goodShare 65 = .ok (.iinc 2 1, 3) := by decide +kernel
theorem dX9_goodShare_68 : decode cX9_goodShare 68 = .ok (.goto (-43), 3) := by decide +kernel
theorem dX9_goodShare_71 : decode cX9_goodShare 71 = .ok (.iload_n 1, 1) := by decide +kernel
theorem dX9_goodShare_72 : decode cX9_goodShare 72 = .ok (.i2f, 1) := by decide +kernel
theorem dX9_goodShare_73 : decode cX9_goodShare 73 = .ok (.aload_n 0, 1) := by decide +kernel
theorem dX9_goodShare_74 : decode cX9_goodShare 74 = .ok (.getfield 19, 3) := by decide +kernel
theorem dX9_goodShare_77 : decode cX9_goodShare 77 = .ok (.invokevirtual 44, 3) := by decide +kernel
theorem dX9_goodShare_80 : decode cX9_goodShare 80 = .ok (.i2f, 1) := by decide +kernel
theorem dX9_goodShare_81 : decode cX9_goodShare 81 = .ok (.fdiv, 1) := by decide +kernel
theorem dX9_goodShare_82 : decode cX9_goodShare 82 = .ok (.freturn, 1) := by decide +kernel
theorem dX9_meanPaid_0 : decode cX9_meanPaid 0 = .ok (.aload_n 0, 1) := by decide +kernel
theorem dX9_meanPaid_1 : decode cX9_meanPaid 1 = .ok (.getfield 292, 3) := by decide +kernel
theorem dX9_meanPaid_4 : decode cX9_meanPaid 4 = .ok (.ifCond .ne 14, 3) := by decide +kernel
theorem dX9_meanPaid_7 : decode cX9_meanPaid 7 = .ok (.new 287, 3) := by decide +kernel
theorem dX9_meanPaid_10 : decode cX9_meanPaid 10 = .ok (.dup, 1) := by decide +kernel
theorem dX9_meanPaid_11 : decode cX9_meanPaid 11 = .ok (.ldc_w 295, 3) := by decide +kernel
theorem dX9_meanPaid_14 : decode cX9_meanPaid 14 = .ok (.invokespecial 291, 3) := by decide +kernel
theorem dX9_meanPaid_17 : decode cX9_meanPaid 17 = .ok (.athrow, 1) := by decide +kernel
theorem dX9_meanPaid_18 : decode cX9_meanPaid 18 = .ok (.aload_n 0, 1) := by decide +kernel
theorem dX9_meanPaid_19 : decode cX9_meanPaid 19 = .ok (.getfield 297, 3) := by decide +kernel
theorem dX9_meanPaid_22 : decode cX9_meanPaid 22 = .ok (.i2d, 1) := by decide +kernel
theorem dX9_meanPaid_23 : decode cX9_meanPaid 23 = .ok (.aload_n 0, 1) := by decide +kernel
theorem dX9_meanPaid_24 : decode cX9_meanPaid 24 = .ok (.getfield 292, 3) := by decide +kernel
theorem dX9_meanPaid_27 : decode cX9_meanPaid 27 = .ok (.i2d, 1) := by decide +kernel
theorem dX9_meanPaid_28 : decode cX9_meanPaid 28 = .ok (.ddiv, 1) := by decide +kernel
theorem dX9_meanPaid_29 : decode cX9_meanPaid 29 = .ok (.dreturn, 1) := by decide +kernel
theorem dX9_isWithin_0 : decode cX9_isWithin 0 = .ok (.iload_n 0, 1) := by decide +kernel
theorem dX9_isWithin_1 : decode cX9_isWithin 1 = .ok (.iload_n 1, 1) := by decide +kernel
theorem dX9_isWithin_2 : decode cX9_isWithin 2 = .ok (.if_icmp .lt 12, 3) := by decide +kernel
theorem dX9_isWithin_5 : decode cX9_isWithin 5 = .ok (.iload_n 0, 1) := by decide +kernel
theorem dX9_isWithin_6 : decode cX9_isWithin 6 = .ok (.iload_n 2, 1) := by decide +kernel
theorem dX9_isWithin_7 : decode cX9_isWithin 7 = .ok (.if_icmp .gt 7, 3) := by decide +kernel
theorem dX9_isWithin_10 : decode cX9_isWithin 10 = .ok (.iconst 1, 1) := by decide +kernel
theorem dX9_isWithin_11 : decode cX9_isWithin 11 = .ok (.goto 4, 3) := by decide +kernel
theorem dX9_isWithin_14 : decode cX9_isWithin 14 = .ok (.iconst 0, 1) := by decide +kernel
theorem dX9_isWithin_15 : decode cX9_isWithin 15 = .ok (.ireturn, 1) := by decide +kernel
theorem dX9_isPackageIndex_0 : decode cX9_isPackageIndex 0 = .ok (.iload_n 0, 1) := by decide +kernel
theorem dX9_isPackageIndex_1 : decode cX9_isPackageIndex 1 = .ok (.ifCond .lt 13, 3) := by decide +kernel
theorem dX9_isPackageIndex_4 : decode cX9_isPackageIndex 4 = .ok (.iload_n 0, 1) := by decide +kernel
theorem dX9_isPackageIndex_5 : decode cX9_isPackageIndex 5 = .ok (.bipush 6, 2) := by decide +kernel
theorem dX9_isPackageIndex_7 : decode cX9_isPackageIndex 7 = .ok (.if_icmp .ge 7, 3) := by decide +kernel
theorem dX9_isPackageIndex_10 : decode cX9_isPackageIndex 10 = .ok (.iconst 1, 1) := by decide +kernel
theorem dX9_isPackageIndex_11 : decode cX9_isPackageIndex 11 = .ok (.goto 4, 3) := by decide +kernel
theorem dX9_isPackageIndex_14 : decode cX9_isPackageIndex 14 = .ok (.iconst 0, 1) := by decide +kernel
theorem dX9_isPackageIndex_15 : decode cX9_isPackageIndex 15 = .ok (.ireturn, 1) := by decide +kernel
theorem dX9_isOwner_0 : decode cX9_isOwner 0 = .ok (.iload_n 0, 1) := by decide +kernel
theorem dX9_isOwner_1 : decode cX9_isOwner 1 = .ok (.ifCond .lt 12, 3) := by decide +kernel
theorem dX9_isOwner_4 : decode cX9_isOwner 4 = .ok (.iload_n 0, 1) := by decide +kernel
theorem dX9_isOwner_5 : decode cX9_isOwner 5 = .ok (.iconst 3, 1) := by decide +kernel
theorem dX9_isOwner_6 : decode cX9_isOwner 6 = .ok (.if_icmp .ge 7, 3) := by decide +kernel
theorem dX9_isOwner_9 : decode cX9_isOwner 9 = .ok (.iconst 1, 1) := by decide +kernel
theorem dX9_isOwner_10 : decode cX9_isOwner 10 = .ok (.goto 4, 3) := by decide +kernel
theorem dX9_isOwner_13 : decode cX9_isOwner 13 = .ok (.iconst 0, 1) := by decide +kernel
theorem dX9_isOwner_14 : decode cX9_isOwner 14 = .ok (.ireturn, 1) := by decide +kernel
theorem dX9_checkOwner_0 : decode cX9_checkOwner 0 = .ok (.iload_n 0, 1) := by decide +kernel
theorem dX9_checkOwner_1 : decode cX9_checkOwner 1 = .ok (.invokestatic 300, 3) := by decide +kernel
theorem dX9_checkOwner_4 : decode cX9_checkOwner 4 = .ok (.ifCond .ne 14, 3) := by decide +kernel
theorem dX9_checkOwner_7 : decode cX9_checkOwner 7 = .ok (.new 75, 3) := by decide +kernel
theorem dX9_checkOwner_10 : decode cX9_checkOwner 10 = .ok (.dup, 1) := by decide +kernel
theorem dX9_checkOwner_11 : decode cX9_checkOwner 11 = .ok (.ldc_w 303, 3) := by decide +kernel
theorem dX9_checkOwner_14 : decode cX9_checkOwner 14 = .ok (.invokespecial 79, 3) := by decide +kernel
theorem dX9_checkOwner_17 : decode cX9_checkOwner 17 = .ok (.athrow, 1) := by decide +kernel
theorem dX9_checkOwner_18 : decode cX9_checkOwner 18 = .ok (.return_, 1) := by decide +kernel
theorem dX9_checkPackage_0 : decode cX9_checkPackage 0 = .ok (.iload_n 1, 1) := by decide +kernel
theorem dX9_checkPackage_1 : decode cX9_checkPackage 1 = .ok (.ifCond .lt 14, 3) := by decide +kernel
theorem dX9_checkPackage_4 : decode cX9_checkPackage 4 = .ok (.iload_n 1, 1) := by decide +kernel
theorem dX9_checkPackage_5 : decode cX9_checkPackage 5 = .ok (.aload_n 0, 1) := by decide +kernel
theorem dX9_checkPackage_6 : decode cX9_checkPackage 6 = .ok (.getfield 10, 3) := by decide +kernel
theorem dX9_checkPackage_9 : decode cX9_checkPackage 9 = .ok (.invokevirtual 44, 3) := by decide +kernel
theorem dX9_checkPackage_12 : decode cX9_checkPackage 12 = .ok (.if_icmp .lt 14, 3) := by decide +kernel
theorem dX9_checkPackage_15 : decode cX9_checkPackage 15 = .ok (.new 305, 3) := by decide +kernel
theorem dX9_checkPackage_18 : decode cX9_checkPackage 18 = .ok (.dup, 1) := by decide +kernel
theorem dX9_checkPackage_19 : decode cX9_checkPackage 19 = .ok (.ldc_w 307, 3) := by decide +kernel
theorem dX9_checkPackage_22 : decode cX9_checkPackage 22 = .ok (.invokespecial 309, 3) := by decide +kernel
theorem dX9_checkPackage_25 : decode cX9_checkPackage 25 = .ok (.athrow, 1) := by decide +kernel
theorem dX9_checkPackage_26 : decode cX9_checkPackage 26 = .ok (.return_, 1) := by decide +kernel
theorem dX9_packAt_0 : decode cX9_packAt 0 = .ok (.aload_n 0, 1) := by decide +kernel
theorem dX9_packAt_1 : decode cX9_packAt 1 = .ok (.iload_n 1, 1) := by decide +kernel
theorem dX9_packAt_2 : decode cX9_packAt 2 = .ok (.invokevirtual 92, 3) := by decide +kernel
theorem dX9_packAt_5 : decode cX9_packAt 5 = .ok (.aload_n 0, 1) := by decide +kernel
theorem dX9_packAt_6 : decode cX9_packAt 6 = .ok (.getfield 10, 3) := by decide +kernel
theorem dX9_packAt_9 : decode cX9_packAt 9 = .ok (.iload_n 1, 1) := by decide +kernel
theorem dX9_packAt_10 : decode cX9_packAt 10 = .ok (.invokevirtual 181, 3) := by decide +kernel
theorem dX9_packAt_13 : decode cX9_packAt 13 = .ok (.checkcast 55, 3) := by decide +kernel
theorem dX9_packAt_16 : decode cX9_packAt 16 = .ok (.areturn, 1) := by decide +kernel
theorem dX9_testAt_0 : decode cX9_testAt 0 = .ok (.iload_n 1, 1) := by decide +kernel
theorem dX9_testAt_1 : decode cX9_testAt 1 = .ok (.ifCond .lt 14, 3) := by decide +kernel
theorem dX9_testAt_4 : decode cX9_testAt 4 = .ok (.iload_n 1, 1) := by decide +kernel
theorem dX9_testAt_5 : decode cX9_testAt 5 = .ok (.aload_n 0, 1) := by decide +kernel
theorem dX9_testAt_6 : decode cX9_testAt 6 = .ok (.getfield 16, 3) := by decide +kernel
theorem dX9_testAt_9 : decode cX9_testAt 9 = .ok (.invokevirtual 44, 3) := by decide +kernel
theorem dX9_testAt_12 : decode cX9_testAt 12 = .ok (.if_icmp .lt 14, 3) := by decide +kernel
theorem dX9_testAt_15 : decode cX9_testAt 15 = .ok (.new 305, 3) := by decide +kernel
theorem dX9_testAt_18 : decode cX9_testAt 18 = .ok (.dup, 1) := by decide +kernel
theorem dX9_testAt_19 : decode cX9_testAt 19 = .ok (.ldc_w 310, 3) := by decide +kernel
theorem dX9_testAt_22 : decode cX9_testAt 22 = .ok (.invokespecial 309, 3) := by decide +kernel
theorem dX9_testAt_25 : decode cX9_testAt 25 = .ok (.athrow, 1) := by decide +kernel
theorem dX9_testAt_26 : decode cX9_testAt 26 = .ok (.aload_n 0, 1) := by decide +kernel
theorem dX9_testAt_27 : decode cX9_testAt 27 = .ok (.getfield 16, 3) := by decide +kernel
theorem dX9_testAt_30 : decode cX9_testAt 30 = .ok (.iload_n 1, 1) := by decide +kernel
theorem dX9_testAt_31 : decode cX9_testAt 31 = .ok (.invokevirtual 181, 3) := by decide +kernel
theorem dX9_testAt_34 : decode cX9_testAt 34 = .ok (.checkcast 158, 3) := by decide +kernel
theorem dX9_testAt_37 : decode cX9_testAt 37 = .ok (.areturn, 1) := by decide +kernel
theorem dX9_releaseAt_0 : decode cX9_releaseAt 0 = .ok (.aload_n 0, 1) := by decide +kernel
theorem dX9_releaseAt_1 : decode cX9_releaseAt 1 = .ok (.iload_n 1, 1) := by decide +kernel
theorem dX9_releaseAt_2 : decode cX9_releaseAt 2 = .ok (.invokevirtual 63, 3) := by decide +kernel
theorem dX9_releaseAt_5 : decode cX9_releaseAt 5 = .ok (.iload_n 2, 1) := by decide +kernel
theorem dX9_releaseAt_6 : decode cX9_releaseAt 6 = .ok (.invokevirtual 312, 3) := by decide +kernel
theorem dX9_releaseAt_9 : decode cX9_releaseAt 9 = .ok (.astore_n 3, 1) := by decide +kernel
theorem dX9_releaseAt_10 : decode cX9_releaseAt 10 = .ok (.aload_n 3, 1) := by decide +kernel
theorem dX9_releaseAt_11 : decode cX9_releaseAt 11 = .ok (.ifnonnull 14, 3) := by decide +kernel
theorem dX9_releaseAt_14 : decode cX9_releaseAt 14 = .ok (.new 112, 3) := by decide +kernel
theorem dX9_releaseAt_17 : decode cX9_releaseAt 17 = .ok (.dup, 1) := by decide +kernel
theorem dX9_releaseAt_18 : decode cX9_releaseAt 18 = .ok (.ldc_w 316, 3) := by decide +kernel
theorem dX9_releaseAt_21 : decode cX9_releaseAt 21 = .ok (.invokespecial 116, 3) := by decide +kernel
theorem dX9_releaseAt_24 : decode cX9_releaseAt 24 = .ok (.athrow, 1) := by decide +kernel
theorem dX9_releaseAt_25 : decode cX9_releaseAt 25 = .ok (.aload_n 3, 1) := by decide +kernel
theorem dX9_releaseAt_26 : decode cX9_releaseAt 26 = .ok (.areturn, 1) := by decide +kernel
theorem dX9_checkNotYanked_0 : decode cX9_checkNotYanked 0 = .ok (.aload_n 0, 1) := by decide +kernel
theorem dX9_checkNotYanked_1 : decode cX9_checkNotYanked 1 = .ok (.getfield 265, 3) := by decide +kernel
theorem dX9_checkNotYanked_4 : decode cX9_checkNotYanked 4 = .ok (.ifCond .eq 14, 3) := by decide +kernel
theorem dX9_checkNotYanked_7 : decode cX9_checkNotYanked 7 = .ok (.new 48, 3) := by decide +kernel
theorem dX9_checkNotYanked_10 : decode cX9_checkNotYanked 10 = .ok (.dup, 1) := by decide +kernel
theorem dX9_checkNotYanked_11 : decode cX9_checkNotYanked 11 = .ok (.ldc_w 318, 3) := by decide +kernel
theorem dX9_checkNotYanked_14 : decode cX9_checkNotYanked 14 = .ok (.invokespecial 52, 3) := by decide +kernel
theorem dX9_checkNotYanked_17 : decode cX9_checkNotYanked 17 = .ok (.athrow, 1) := by decide +kernel
theorem dX9_checkNotYanked_18 : decode cX9_checkNotYanked 18 = .ok (.return_, 1) := by decide +kernel
theorem dX9_requireChoice_0 : decode cX9_requireChoice 0 = .ok (.aload_n 0, 1) := by decide +kernel
theorem dX9_requireChoice_1 : decode cX9_requireChoice 1 = .ok (.ifnonnull 14, 3) := by decide +kernel
theorem dX9_requireChoice_4 : decode cX9_requireChoice 4 = .ok (.new 242, 3) := by decide +kernel
theorem dX9_requireChoice_7 : decode cX9_requireChoice 7 = .ok (.dup, 1) := by decide +kernel
theorem dX9_requireChoice_8 : decode cX9_requireChoice 8 = .ok (.ldc_w 320, 3) := by decide +kernel
theorem dX9_requireChoice_11 : decode cX9_requireChoice 11 = .ok (.invokespecial 246, 3) := by decide +kernel
theorem dX9_requireChoice_14 : decode cX9_requireChoice 14 = .ok (.athrow, 1) := by decide +kernel
theorem dX9_requireChoice_15 : decode cX9_requireChoice 15 = .ok (.aload_n 0, 1) := by decide +kernel
theorem dX9_requireChoice_16 : decode cX9_requireChoice 16 = .ok (.areturn, 1) := by decide +kernel
theorem dX9_placeOnFirstFree_0 : decode cX9_placeOnFirstFree 0 = .ok (.iconst 0, 1) := by decide +kernel
theorem dX9_placeOnFirstFree_1 : decode cX9_placeOnFirstFree 1 = .ok (.istore_n 2, 1) := by decide +kernel
theorem dX9_placeOnFirstFree_2 : decode cX9_placeOnFirstFree 2 = .ok (.iconst 1, 1) := by decide +kernel
theorem dX9_placeOnFirstFree_3 : decode cX9_placeOnFirstFree 3 = .ok (.istore_n 3, 1) := by decide +kernel
theorem dX9_placeOnFirstFree_4 : decode cX9_placeOnFirstFree 4 = .ok (.iload_n 3, 1) := by decide +kernel
theorem dX9_placeOnFirstFree_5 : decode cX9_placeOnFirstFree 5 = .ok (.aload_n 0, 1) := by decide +kernel
theorem dX9_placeOnFirstFree_6 : decode cX9_placeOnFirstFree 6 = .ok (.getfield 36, 3) := by decide +kernel
theorem dX9_placeOnFirstFree_9 : decode cX9_placeOnFirstFree 9 = .ok (.if_icmp .ge 35, 3) := by decide +kernel
theorem dX9_placeOnFirstFree_12 : decode cX9_placeOnFirstFree 12 = .ok (.iload_n 3, 1) := by decide +kernel
theorem dX9_placeOnFirstFree_13 : decode cX9_placeOnFirstFree 13 = .ok (.aload_n 0, 1) := by decide +kernel
theorem dX9_placeOnFirstFree_14 : decode cX9_placeOnFirstFree 14 = .ok (.getfield 33, 3) := by decide +kernel
theorem dX9_placeOnFirstFree_17 : decode cX9_placeOnFirstFree 17 = .ok (.arraylength, 1) := by decide +kernel
theorem dX9_placeOnFirstFree_18 : decode cX9_placeOnFirstFree 18 = .ok (.if_icmp .ge 26, 3) := by decide +kernel
theorem dX9_placeOnFirstFree_21 : decode cX9_placeOnFirstFree 21 = .ok (.aload_n 0, 1) := by decide +kernel
theorem dX9_placeOnFirstFree_22 : decode cX9_placeOnFirstFree 22 = .ok (.getfield 33, 3) := by decide +kernel
theorem dX9_placeOnFirstFree_25 : decode cX9_placeOnFirstFree 25 = .ok (.iload_n 3, 1) := by decide +kernel
theorem dX9_placeOnFirstFree_26 : decode cX9_placeOnFirstFree 26 = .ok (.iaload, 1) := by decide +kernel
theorem dX9_placeOnFirstFree_27 : decode cX9_placeOnFirstFree 27 = .ok (.aload_n 0, 1) := by decide +kernel
theorem dX9_placeOnFirstFree_28 : decode cX9_placeOnFirstFree 28 = .ok (.getfield 33, 3) := by decide +kernel
theorem dX9_placeOnFirstFree_31 : decode cX9_placeOnFirstFree 31 = .ok (.iload_n 2, 1) := by decide +kernel
theorem dX9_placeOnFirstFree_32 : decode cX9_placeOnFirstFree 32 = .ok (.iaload, 1) := by decide +kernel
theorem dX9_placeOnFirstFree_33 : decode cX9_placeOnFirstFree 33 = .ok (.if_icmp .ge 5, 3) := by decide +kernel
theorem dX9_placeOnFirstFree_36 : decode cX9_placeOnFirstFree 36 = .ok (.iload_n 3, 1) := by decide +kernel
theorem dX9_placeOnFirstFree_37 : decode cX9_placeOnFirstFree 37 = .ok (.istore_n 2, 1) := by decide +kernel
theorem dX9_placeOnFirstFree_38 : decode cX9_placeOnFirstFree 38 = .ok (.iinc 3 1, 3) := by decide +kernel
theorem dX9_placeOnFirstFree_41 : decode cX9_placeOnFirstFree 41 = .ok (.goto (-37), 3) := by decide +kernel
theorem dX9_placeOnFirstFree_44 : decode cX9_placeOnFirstFree 44 = .ok (.aload_n 0, 1) := by decide +kernel
theorem dX9_placeOnFirstFree_45 : decode cX9_placeOnFirstFree 45 = .ok (.getfield 33, 3) := by decide +kernel
theorem dX9_placeOnFirstFree_48 : decode cX9_placeOnFirstFree 48 = .ok (.iload_n 2, 1) := by decide +kernel
theorem dX9_placeOnFirstFree_49 : decode cX9_placeOnFirstFree 49 = .ok (.dup2, 1) := by decide +kernel
theorem dX9_placeOnFirstFree_50 : decode cX9_placeOnFirstFree 50 = .ok (.iaload, 1) := by decide +kernel
theorem dX9_placeOnFirstFree_51 : decode cX9_placeOnFirstFree 51 = .ok (.iload_n 1, 1) := by decide +kernel
theorem dX9_placeOnFirstFree_52 : decode cX9_placeOnFirstFree 52 = .ok (.iadd, 1) := by decide +kernel
theorem dX9_placeOnFirstFree_53 : decode cX9_placeOnFirstFree 53 = .ok (.iastore, 1) := by decide +kernel
theorem dX9_placeOnFirstFree_54 : decode cX9_placeOnFirstFree 54 = .ok (.aload_n 0, 1) := by decide +kernel
theorem dX9_placeOnFirstFree_55 : decode cX9_placeOnFirstFree 55 = .ok (.getfield 33, 3) := by decide +kernel
theorem dX9_placeOnFirstFree_58 : decode cX9_placeOnFirstFree 58 = .ok (.iload_n 2, 1) := by decide +kernel
theorem dX9_placeOnFirstFree_59 : decode cX9_placeOnFirstFree 59 = .ok (.iaload, 1) := by decide +kernel
theorem dX9_placeOnFirstFree_60 : decode cX9_placeOnFirstFree 60 = .ok (.ireturn, 1) := by decide +kernel
theorem dX9_costOfTests_0 : decode cX9_costOfTests 0 = .ok (.iconst 0, 1) := by decide +kernel
theorem dX9_costOfTests_1 : decode cX9_costOfTests 1 = .ok (.istore_n 2, 1) := by decide +kernel
theorem dX9_costOfTests_2 : decode cX9_costOfTests 2 = .ok (.iconst 0, 1) := by decide +kernel
theorem dX9_costOfTests_3 : decode cX9_costOfTests 3 = .ok (.istore_n 3, 1) := by decide +kernel
theorem dX9_costOfTests_4 : decode cX9_costOfTests 4 = .ok (.iload_n 3, 1) := by decide +kernel
theorem dX9_costOfTests_5 : decode cX9_costOfTests 5 = .ok (.aload_n 0, 1) := by decide +kernel
theorem dX9_costOfTests_6 : decode cX9_costOfTests 6 = .ok (.getfield 16, 3) := by decide +kernel
theorem dX9_costOfTests_9 : decode cX9_costOfTests 9 = .ok (.invokevirtual 44, 3) := by decide +kernel
theorem dX9_costOfTests_12 : decode cX9_costOfTests 12 = .ok (.if_icmp .ge 39, 3) := by decide +kernel
theorem dX9_costOfTests_15 : decode cX9_costOfTests 15 = .ok (.aload_n 0, 1) := by decide +kernel
theorem dX9_costOfTests_16 : decode cX9_costOfTests 16 = .ok (.getfield 16, 3) := by decide +kernel
theorem dX9_costOfTests_19 : decode cX9_costOfTests 19 = .ok (.iload_n 3, 1) := by decide +kernel
theorem dX9_costOfTests_20 : decode cX9_costOfTests 20 = .ok (.invokevirtual 181, 3) := by decide +kernel
theorem dX9_costOfTests_23 : decode cX9_costOfTests 23 = .ok (.checkcast 158, 3) := by decide +kernel
theorem dX9_costOfTests_26 : decode cX9_costOfTests 26 = .ok (.astore 4, 2) := by decide +kernel
theorem dX9_costOfTests_28 : decode cX9_costOfTests 28 = .ok (.aload 4, 2) := by decide +kernel
theorem dX9_costOfTests_30 : decode cX9_costOfTests 30 = .ok (.getfield 185, 3) := by decide +kernel
theorem dX9_costOfTests_33 : decode cX9_costOfTests 33 = .ok (.iload_n 1, 1) := by decide +kernel
theorem dX9_costOfTests_34 : decode cX9_costOfTests 34 = .ok (.if_icmp .ne 11, 3) := by decide +kernel
theorem dX9_costOfTests_37 : decode cX9_costOfTests 37 = .ok (.iload_n 2, 1) := by decide +kernel
theorem dX9_costOfTests_38 : decode cX9_costOfTests 38 = .ok (.aload 4, 2) := by decide +kernel
theorem dX9_costOfTests_40 : decode cX9_costOfTests 40 = .ok (.getfield 188, 3) := by decide +kernel
theorem dX9_costOfTests_43 : decode cX9_costOfTests 43 = .ok (.iadd, 1) := by decide +kernel
theorem dX9_costOfTests_44 : decode cX9_costOfTests 44 = .ok (.istore_n 2, 1) := by decide +kernel
theorem dX9_costOfTests_45 : decode cX9_costOfTests 45 = .ok (.iinc 3 1, 3) := by decide +kernel
theorem dX9_costOfTests_48 : decode cX9_costOfTests 48 = .ok (.goto (-44), 3) := by decide +kernel
theorem dX9_costOfTests_51 : decode cX9_costOfTests 51 = .ok (.iload_n 2, 1) := by decide +kernel
theorem dX9_costOfTests_52 : decode cX9_costOfTests 52 = .ok (.ireturn, 1) := by decide +kernel
theorem dX9_payFrom_0 : decode cX9_payFrom 0 = .ok (.iload_n 1, 1) := by decide +kernel
theorem dX9_payFrom_1 : decode cX9_payFrom 1 = .ok (.invokestatic 300, 3) := by decide +kernel
theorem dX9_payFrom_4 : decode cX9_payFrom 4 = .ok (.ifCond .eq 13, 3) := by decide +kernel
theorem dX9_payFrom_7 : decode cX9_payFrom 7 = .ok (.aload_n 0, 1) := by decide +kernel
theorem dX9_payFrom_8 : decode cX9_payFrom 8 = .ok (.getfield 29, 3) := by decide +kernel
theorem dX9_payFrom_11 : decode cX9_payFrom 11 = .ok (.iload_n 1, 1) := by decide +kernel
theorem dX9_payFrom_12 : decode cX9_payFrom 12 = .ok (.iaload, 1) := by decide +kernel
theorem dX9_payFrom_13 : decode cX9_payFrom 13 = .ok (.iload_n 2, 1) := by decide +kernel
theorem dX9_payFrom_14 : decode cX9_payFrom 14 = .ok (.if_icmp .ge 5, 3) := by decide +kernel
theorem dX9_payFrom_17 : decode cX9_payFrom 17 = .ok (.iconst 0, 1) := by decide +kernel
theorem dX9_payFrom_18 : decode cX9_payFrom 18 = .ok (.ireturn, 1) := by decide +kernel
theorem dX9_payFrom_19 : decode cX9_payFrom 19 = .ok (.aload_n 0, 1) := by decide +kernel
theorem dX9_payFrom_20 : decode cX9_payFrom 20 = .ok (.getfield 29, 3) := by decide +kernel
theorem dX9_payFrom_23 : decode cX9_payFrom 23 = .ok (.iload_n 1, 1) := by decide +kernel
theorem dX9_payFrom_24 : decode cX9_payFrom 24 = .ok (.dup2, 1) := by decide +kernel
theorem dX9_payFrom_25 : decode cX9_payFrom 25 = .ok (.iaload, 1) := by decide +kernel
theorem dX9_payFrom_26 : decode cX9_payFrom 26 = .ok (.iload_n 2, 1) := by decide +kernel
theorem dX9_payFrom_27 : decode cX9_payFrom 27 = .ok (.isub, 1) := by decide +kernel
theorem dX9_payFrom_28 : decode cX9_payFrom 28 = .ok (.iastore, 1) := by decide +kernel
theorem dX9_payFrom_29 : decode cX9_payFrom 29 = .ok (.aload_n 0, 1) := by decide +kernel
theorem dX9_payFrom_30 : decode cX9_payFrom 30 = .ok (.dup, 1) := by decide +kernel
theorem dX9_payFrom_31 : decode cX9_payFrom 31 = .ok (.getfield 297, 3) := by decide +kernel
theorem dX9_payFrom_34 : decode cX9_payFrom 34 = .ok (.iload_n 2, 1) := by decide +kernel
theorem dX9_payFrom_35 : decode cX9_payFrom 35 = .ok (.iadd, 1) := by decide +kernel
theorem dX9_payFrom_36 : decode cX9_payFrom 36 = .ok (.putfield 297, 3) := by decide +kernel
theorem dX9_payFrom_39 : decode cX9_payFrom 39 = .ok (.iconst 1, 1) := by decide +kernel
theorem dX9_payFrom_40 : decode cX9_payFrom 40 = .ok (.ireturn, 1) := by decide +kernel
theorem dX9_runTests_0 : decode cX9_runTests 0 = .ok (.aload_n 0, 1) := by decide +kernel
theorem dX9_runTests_1 : decode cX9_runTests 1 = .ok (.dup, 1) := by decide +kernel
theorem dX9_runTests_2 : decode cX9_runTests 2 = .ok (.getfield 292, 3) := by decide +kernel
theorem dX9_runTests_5 : decode cX9_runTests 5 = .ok (.iconst 1, 1) := by decide +kernel
theorem dX9_runTests_6 : decode cX9_runTests 6 = .ok (.iadd, 1) := by decide +kernel
theorem dX9_runTests_7 : decode cX9_runTests 7 = .ok (.putfield 292, 3) := by decide +kernel
theorem dX9_runTests_10 : decode cX9_runTests 10 = .ok (.iconst 0, 1) := by decide +kernel
theorem dX9_runTests_11 : decode cX9_runTests 11 = .ok (.istore_n 2, 1) := by decide +kernel
theorem dX9_runTests_12 : decode cX9_runTests 12 = .ok (.iconst 0, 1) := by decide +kernel
theorem dX9_runTests_13 : decode cX9_runTests 13 = .ok (.istore_n 3, 1) := by decide +kernel
theorem dX9_runTests_14 : decode cX9_runTests 14 = .ok (.iload_n 3, 1) := by decide +kernel
theorem dX9_runTests_15 : decode cX9_runTests 15 = .ok (.aload_n 0, 1) := by decide +kernel
theorem dX9_runTests_16 : decode cX9_runTests 16 = .ok (.getfield 16, 3) := by decide +kernel
theorem dX9_runTests_19 : decode cX9_runTests 19 = .ok (.invokevirtual 44, 3) := by decide +kernel
theorem dX9_runTests_22 : decode cX9_runTests 22 = .ok (.if_icmp .ge 57, 3) := by decide +kernel
theorem dX9_runTests_25 : decode cX9_runTests 25 = .ok (.aload_n 0, 1) := by decide +kernel
theorem dX9_runTests_26 : decode cX9_runTests 26 = .ok (.getfield 16, 3) := by decide +kernel
theorem dX9_runTests_29 : decode cX9_runTests 29 = .ok (.iload_n 3, 1) := by decide +kernel
theorem dX9_runTests_30 : decode cX9_runTests 30 = .ok (.invokevirtual 181, 3) := by decide +kernel
theorem dX9_runTests_33 : decode cX9_runTests 33 = .ok (.checkcast 158, 3) := by decide +kernel
theorem dX9_runTests_36 : decode cX9_runTests 36 = .ok (.astore 4, 2) := by decide +kernel
theorem dX9_runTests_38 : decode cX9_runTests 38 = .ok (.aload 4, 2) := by decide +kernel
theorem dX9_runTests_40 : decode cX9_runTests 40 = .ok (.getfield 185, 3) := by decide +kernel
theorem dX9_runTests_43 : decode cX9_runTests 43 = .ok (.iload_n 1, 1) := by decide +kernel
theorem dX9_runTests_44 : decode cX9_runTests 44 = .ok (.if_icmp .ne 29, 3) := by decide +kernel
theorem dX9_runTests_47 : decode cX9_runTests 47 = .ok (.aload 4, 2) := by decide +kernel
theorem dX9_runTests_49 : decode cX9_runTests 49 = .ok (.aload 4, 2) := by decide +kernel
theorem dX9_runTests_51 : decode cX9_runTests 51 = .ok (.getfield 167, 3) := by decide +kernel
theorem dX9_runTests_54 : decode cX9_runTests 54 = .ok (.invokevirtual 322, 3) := by decide +kernel
theorem dX9_runTests_57 : decode cX9_runTests 57 = .ok (.iload_n 2, 1) := by decide +kernel
theorem dX9_runTests_58 : decode cX9_runTests 58 = .ok (.aload 4, 2) := by decide +kernel
theorem dX9_runTests_60 : decode cX9_runTests 60 = .ok (.getfield 167, 3) := by decide +kernel
theorem dX9_runTests_63 : decode cX9_runTests 63 = .ok (.ifCond .eq 7, 3) := by decide +kernel
theorem dX9_runTests_66 : decode cX9_runTests 66 = .ok (.iconst 1, 1) := by decide +kernel
theorem dX9_runTests_67 : decode cX9_runTests 67 = .ok (.goto 4, 3) := by decide +kernel
theorem dX9_runTests_70 : decode cX9_runTests 70 = .ok (.iconst 0, 1) := by decide +kernel
theorem dX9_runTests_71 : decode cX9_runTests 71 = .ok (.iadd, 1) := by decide +kernel
theorem dX9_runTests_72 : decode cX9_runTests 72 = .ok (.istore_n 2, 1) := by decide +kernel
theorem dX9_runTests_73 : decode cX9_runTests 73 = .ok (.iinc 3 1, 3) := by decide +kernel
theorem dX9_runTests_76 : decode cX9_runTests 76 = .ok (.goto (-62), 3) := by decide +kernel
theorem dX9_runTests_79 : decode cX9_runTests 79 = .ok (.iload_n 2, 1) := by decide +kernel
theorem dX9_runTests_80 : decode cX9_runTests 80 = .ok (.ireturn, 1) := by decide +kernel
theorem dX9_countStale_0 : decode cX9_countStale 0 = .ok (.iconst 0, 1) := by decide +kernel
theorem dX9_countStale_1 : decode cX9_countStale 1 = .ok (.istore_n 1, 1) := by decide +kernel
theorem dX9_countStale_2 : decode cX9_countStale 2 = .ok (.iconst 0, 1) := by decide +kernel
theorem dX9_countStale_3 : decode cX9_countStale 3 = .ok (.istore_n 2, 1) := by decide +kernel
theorem dX9_countStale_4 : decode cX9_countStale 4 = .ok (.iload_n 2, 1) := by decide +kernel
theorem dX9_countStale_5 : decode cX9_countStale 5 = .ok (.aload_n 0, 1) := by decide +kernel
theorem dX9_countStale_6 : decode cX9_countStale 6 = .ok (.getfield 19, 3) := by decide +kernel
theorem dX9_countStale_9 : decode cX9_countStale 9 = .ok (.invokevirtual 44, 3) := by decide +kernel
theorem dX9_countStale_12 : decode cX9_countStale 12 = .ok (.if_icmp .ge 34, 3) := by decide +kernel
theorem dX9_countStale_15 : decode cX9_countStale 15 = .ok (.iload_n 1, 1) := by decide +kernel
theorem dX9_countStale_16 : decode cX9_countStale 16 = .ok (.aload_n 0, 1) := by decide +kernel
theorem dX9_countStale_17 : decode cX9_countStale 17 = .ok (.getfield 19, 3) := by decide +kernel
theorem dX9_countStale_20 : decode cX9_countStale 20 = .ok (.iload_n 2, 1) := by decide +kernel
theorem dX9_countStale_21 : decode cX9_countStale 21 = .ok (.invokevirtual 181, 3) := by decide +kernel
theorem dX9_countStale_24 : decode cX9_countStale 24 = .ok (.checkcast 251, 3) := by decide +kernel
theorem dX9_countStale_27 : decode cX9_countStale 27 = .ok (.invokevirtual 271, 3) := by decide +kernel
theorem dX9_countStale_30 : decode cX9_countStale 30 = .ok (.ifCond .eq 7, 3) := by decide +kernel
theorem dX9_countStale_33 : decode cX9_countStale 33 = .ok (.iconst 1, 1) := by decide +kernel
theorem dX9_countStale_34 : decode cX9_countStale 34 = .ok (.goto 4, 3) := by decide +kernel
theorem dX9_countStale_37 : decode cX9_countStale 37 = .ok (.iconst 0, 1) := by decide +kernel
theorem dX9_countStale_38 : decode cX9_countStale 38 = .ok (.iadd, 1) := by decide +kernel
end
section
theorem dX9_countStale_39 : decode cX9_countStale 39 = .ok (.istore_n 1, 1) := by decide +kernel
theorem dX9_countStale_40 : decode cX9_countStale 40 = .ok (.iinc 2 1, 3) := by decide +kernel
theorem dX9_countStale_43 : decode cX9_countStale 43 = .ok (.goto (-39), 3) := by decide +kernel
theorem dX9_countStale_46 : decode cX9_countStale 46 = .ok (.iload_n 1, 1) := by decide +kernel
theorem dX9_countStale_47 : decode cX9_countStale 47 = .ok (.ireturn, 1) := by decide +kernel
theorem dX10_init_0 : decode cX10_init 0 = .ok (.aload_n 0, 1) := by decide +kernel
theorem dX10_init_1 : decode cX10_init 1 = .ok (.invokespecial 1, 3) := by decide +kernel
theorem dX10_init_4 : decode cX10_init 4 = .ok (.aload_n 0, 1) := by decide +kernel
theorem dX10_init_5 : decode cX10_init 5 = .ok (.bipush 6, 2) := by decide +kernel
theorem dX10_init_7 : decode cX10_init 7 = .ok (.newarray .int, 2) := by decide +kernel
theorem dX10_init_9 : decode cX10_init 9 = .ok (.putfield 9, 3) := by decide +kernel
theorem dX10_init_12 : decode cX10_init 12 = .ok (.aload_n 0, 1) := by decide +kernel
theorem dX10_init_13 : decode cX10_init 13 = .ok (.bipush 6, 2) := by decide +kernel
theorem dX10_init_15 : decode cX10_init 15 = .ok (.newarray .int, 2) := by decide +kernel
theorem dX10_init_17 : decode cX10_init 17 = .ok (.putfield 13, 3) := by decide +kernel
theorem dX10_init_20 : decode cX10_init 20 = .ok (.aload_n 0, 1) := by decide +kernel
theorem dX10_init_21 : decode cX10_init 21 = .ok (.bipush 6, 2) := by decide +kernel
theorem dX10_init_23 : decode cX10_init 23 = .ok (.newarray .int, 2) := by decide +kernel
theorem dX10_init_25 : decode cX10_init 25 = .ok (.putfield 16, 3) := by decide +kernel
theorem dX10_init_28 : decode cX10_init 28 = .ok (.aload_n 0, 1) := by decide +kernel
theorem dX10_init_29 : decode cX10_init 29 = .ok (.bipush 6, 2) := by decide +kernel
theorem dX10_init_31 : decode cX10_init 31 = .ok (.bipush 6, 2) := by decide +kernel
theorem dX10_init_33 : decode cX10_init 33 = .ok (.multianewarray 19 2, 4) := by decide +kernel
theorem dX10_init_37 : decode cX10_init 37 = .ok (.putfield 21, 3) := by decide +kernel
theorem dX10_init_40 : decode cX10_init 40 = .ok (.aload_n 0, 1) := by decide +kernel
theorem dX10_init_41 : decode cX10_init 41 = .ok (.bipush 6, 2) := by decide +kernel
theorem dX10_init_43 : decode cX10_init 43 = .ok (.bipush 6, 2) := by decide +kernel
theorem dX10_init_45 : decode cX10_init 45 = .ok (.multianewarray 19 2, 4) := by decide +kernel
theorem dX10_init_49 : decode cX10_init 49 = .ok (.putfield 24, 3) := by decide +kernel
theorem dX10_init_52 : decode cX10_init 52 = .ok (.aload_n 0, 1) := by decide +kernel
theorem dX10_init_53 : decode cX10_init 53 = .ok (.bipush 6, 2) := by decide +kernel
theorem dX10_init_55 : decode cX10_init 55 = .ok (.newarray .boolean, 2) := by decide +kernel
theorem dX10_init_57 : decode cX10_init 57 = .ok (.putfield 27, 3) := by decide +kernel
theorem dX10_init_60 : decode cX10_init 60 = .ok (.aload_n 0, 1) := by decide +kernel
theorem dX10_init_61 : decode cX10_init 61 = .ok (.bipush 6, 2) := by decide +kernel
theorem dX10_init_63 : decode cX10_init 63 = .ok (.newarray .int, 2) := by decide +kernel
theorem dX10_init_65 : decode cX10_init 65 = .ok (.putfield 31, 3) := by decide +kernel
theorem dX10_init_68 : decode cX10_init 68 = .ok (.aload_n 0, 1) := by decide +kernel
theorem dX10_init_69 : decode cX10_init 69 = .ok (.bipush 6, 2) := by decide +kernel
theorem dX10_init_71 : decode cX10_init 71 = .ok (.newarray .int, 2) := by decide +kernel
theorem dX10_init_73 : decode cX10_init 73 = .ok (.putfield 34, 3) := by decide +kernel
theorem dX10_init_76 : decode cX10_init 76 = .ok (.aload_n 0, 1) := by decide +kernel
theorem dX10_init_77 : decode cX10_init 77 = .ok (.bipush 6, 2) := by decide +kernel
theorem dX10_init_79 : decode cX10_init 79 = .ok (.newarray .int, 2) := by decide +kernel
theorem dX10_init_81 : decode cX10_init 81 = .ok (.putfield 37, 3) := by decide +kernel
theorem dX10_init_84 : decode cX10_init 84 = .ok (.aload_n 0, 1) := by decide +kernel
theorem dX10_init_85 : decode cX10_init 85 = .ok (.bipush 6, 2) := by decide +kernel
theorem dX10_init_87 : decode cX10_init 87 = .ok (.bipush 6, 2) := by decide +kernel
theorem dX10_init_89 : decode cX10_init 89 = .ok (.multianewarray 19 2, 4) := by decide +kernel
theorem dX10_init_93 : decode cX10_init 93 = .ok (.putfield 40, 3) := by decide +kernel
theorem dX10_init_96 : decode cX10_init 96 = .ok (.aload_n 0, 1) := by decide +kernel
theorem dX10_init_97 : decode cX10_init 97 = .ok (.bipush 6, 2) := by decide +kernel
theorem dX10_init_99 : decode cX10_init 99 = .ok (.newarray .boolean, 2) := by decide +kernel
theorem dX10_init_101 : decode cX10_init 101 = .ok (.putfield 43, 3) := by decide +kernel
theorem dX10_init_104 : decode cX10_init 104 = .ok (.aload_n 0, 1) := by decide +kernel
theorem dX10_init_105 : decode cX10_init 105 = .ok (.bipush 6, 2) := by decide +kernel
theorem dX10_init_107 : decode cX10_init 107 = .ok (.bipush 6, 2) := by decide +kernel
theorem dX10_init_109 : decode cX10_init 109 = .ok (.multianewarray 19 2, 4) := by decide +kernel
theorem dX10_init_113 : decode cX10_init 113 = .ok (.putfield 46, 3) := by decide +kernel
theorem dX10_init_116 : decode cX10_init 116 = .ok (.aload_n 0, 1) := by decide +kernel
theorem dX10_init_117 : decode cX10_init 117 = .ok (.bipush 6, 2) := by decide +kernel
theorem dX10_init_119 : decode cX10_init 119 = .ok (.newarray .int, 2) := by decide +kernel
theorem dX10_init_121 : decode cX10_init 121 = .ok (.putfield 49, 3) := by decide +kernel
theorem dX10_init_124 : decode cX10_init 124 = .ok (.aload_n 0, 1) := by decide +kernel
theorem dX10_init_125 : decode cX10_init 125 = .ok (.bipush 6, 2) := by decide +kernel
theorem dX10_init_127 : decode cX10_init 127 = .ok (.newarray .int, 2) := by decide +kernel
theorem dX10_init_129 : decode cX10_init 129 = .ok (.putfield 52, 3) := by decide +kernel
theorem dX10_init_132 : decode cX10_init 132 = .ok (.aload_n 0, 1) := by decide +kernel
theorem dX10_init_133 : decode cX10_init 133 = .ok (.bipush 6, 2) := by decide +kernel
theorem dX10_init_135 : decode cX10_init 135 = .ok (.bipush 6, 2) := by decide +kernel
theorem dX10_init_137 : decode cX10_init 137 = .ok (.multianewarray 19 2, 4) := by decide +kernel
theorem dX10_init_141 : decode cX10_init 141 = .ok (.putfield 55, 3) := by decide +kernel
theorem dX10_init_144 : decode cX10_init 144 = .ok (.aload_n 0, 1) := by decide +kernel
theorem dX10_init_145 : decode cX10_init 145 = .ok (.bipush 6, 2) := by decide +kernel
theorem dX10_init_147 : decode cX10_init 147 = .ok (.bipush 6, 2) := by decide +kernel
theorem dX10_init_149 : decode cX10_init 149 = .ok (.multianewarray 19 2, 4) := by decide +kernel
theorem dX10_init_153 : decode cX10_init 153 = .ok (.putfield 58, 3) := by decide +kernel
theorem dX10_init_156 : decode cX10_init 156 = .ok (.aload_n 0, 1) := by decide +kernel
theorem dX10_init_157 : decode cX10_init 157 = .ok (.bipush 20, 2) := by decide +kernel
theorem dX10_init_159 : decode cX10_init 159 = .ok (.newarray .int, 2) := by decide +kernel
theorem dX10_init_161 : decode cX10_init 161 = .ok (.putfield 61, 3) := by decide +kernel
theorem dX10_init_164 : decode cX10_init 164 = .ok (.aload_n 0, 1) := by decide +kernel
theorem dX10_init_165 : decode cX10_init 165 = .ok (.bipush 20, 2) := by decide +kernel
theorem dX10_init_167 : decode cX10_init 167 = .ok (.newarray .int, 2) := by decide +kernel
theorem dX10_init_169 : decode cX10_init 169 = .ok (.putfield 64, 3) := by decide +kernel
theorem dX10_init_172 : decode cX10_init 172 = .ok (.aload_n 0, 1) := by decide +kernel
theorem dX10_init_173 : decode cX10_init 173 = .ok (.bipush 20, 2) := by decide +kernel
theorem dX10_init_175 : decode cX10_init 175 = .ok (.newarray .int, 2) := by decide +kernel
theorem dX10_init_177 : decode cX10_init 177 = .ok (.putfield 67, 3) := by decide +kernel
theorem dX10_init_180 : decode cX10_init 180 = .ok (.aload_n 0, 1) := by decide +kernel
theorem dX10_init_181 : decode cX10_init 181 = .ok (.bipush 20, 2) := by decide +kernel
theorem dX10_init_183 : decode cX10_init 183 = .ok (.bipush 6, 2) := by decide +kernel
theorem dX10_init_185 : decode cX10_init 185 = .ok (.multianewarray 19 2, 4) := by decide +kernel
theorem dX10_init_189 : decode cX10_init 189 = .ok (.putfield 70, 3) := by decide +kernel
theorem dX10_init_192 : decode cX10_init 192 = .ok (.aload_n 0, 1) := by decide +kernel
theorem dX10_init_193 : decode cX10_init 193 = .ok (.bipush 20, 2) := by decide +kernel
theorem dX10_init_195 : decode cX10_init 195 = .ok (.bipush 6, 2) := by decide +kernel
theorem dX10_init_197 : decode cX10_init 197 = .ok (.multianewarray 19 2, 4) := by decide +kernel
theorem dX10_init_201 : decode cX10_init 201 = .ok (.putfield 73, 3) := by decide +kernel
theorem dX10_init_204 : decode cX10_init 204 = .ok (.aload_n 0, 1) := by decide +kernel
theorem dX10_init_205 : decode cX10_init 205 = .ok (.bipush 20, 2) := by decide +kernel
theorem dX10_init_207 : decode cX10_init 207 = .ok (.bipush 6, 2) := by decide +kernel
theorem dX10_init_209 : decode cX10_init 209 = .ok (.multianewarray 19 2, 4) := by decide +kernel
theorem dX10_init_213 : decode cX10_init 213 = .ok (.putfield 76, 3) := by decide +kernel
theorem dX10_init_216 : decode cX10_init 216 = .ok (.aload_n 0, 1) := by decide +kernel
theorem dX10_init_217 : decode cX10_init 217 = .ok (.bipush 20, 2) := by decide +kernel
theorem dX10_init_219 : decode cX10_init 219 = .ok (.newarray .boolean, 2) := by decide +kernel
theorem dX10_init_221 : decode cX10_init 221 = .ok (.putfield 79, 3) := by decide +kernel
theorem dX10_init_224 : decode cX10_init 224 = .ok (.aload_n 0, 1) := by decide +kernel
theorem dX10_init_225 : decode cX10_init 225 = .ok (.bipush 8, 2) := by decide +kernel
theorem dX10_init_227 : decode cX10_init 227 = .ok (.newarray .int, 2) := by decide +kernel
theorem dX10_init_229 : decode cX10_init 229 = .ok (.putfield 82, 3) := by decide +kernel
theorem dX10_init_232 : decode cX10_init 232 = .ok (.aload_n 0, 1) := by decide +kernel
theorem dX10_init_233 : decode cX10_init 233 = .ok (.bipush 8, 2) := by decide +kernel
theorem dX10_init_235 : decode cX10_init 235 = .ok (.newarray .int, 2) := by decide +kernel
theorem dX10_init_237 : decode cX10_init 237 = .ok (.putfield 85, 3) := by decide +kernel
theorem dX10_init_240 : decode cX10_init 240 = .ok (.aload_n 0, 1) := by decide +kernel
theorem dX10_init_241 : decode cX10_init 241 = .ok (.bipush 8, 2) := by decide +kernel
theorem dX10_init_243 : decode cX10_init 243 = .ok (.newarray .boolean, 2) := by decide +kernel
theorem dX10_init_245 : decode cX10_init 245 = .ok (.putfield 88, 3) := by decide +kernel
theorem dX10_init_248 : decode cX10_init 248 = .ok (.aload_n 0, 1) := by decide +kernel
theorem dX10_init_249 : decode cX10_init 249 = .ok (.bipush 8, 2) := by decide +kernel
theorem dX10_init_251 : decode cX10_init 251 = .ok (.bipush 8, 2) := by decide +kernel
theorem dX10_init_253 : decode cX10_init 253 = .ok (.multianewarray 91 2, 4) := by decide +kernel
theorem dX10_init_257 : decode cX10_init 257 = .ok (.putfield 93, 3) := by decide +kernel
theorem dX10_init_260 : decode cX10_init 260 = .ok (.aload_n 0, 1) := by decide +kernel
theorem dX10_init_261 : decode cX10_init 261 = .ok (.bipush 8, 2) := by decide +kernel
theorem dX10_init_263 : decode cX10_init 263 = .ok (.newarray .int, 2) := by decide +kernel
theorem dX10_init_265 : decode cX10_init 265 = .ok (.putfield 96, 3) := by decide +kernel
theorem dX10_init_268 : decode cX10_init 268 = .ok (.aload_n 0, 1) := by decide +kernel
theorem dX10_init_269 : decode cX10_init 269 = .ok (.iconst 1, 1) := by decide +kernel
theorem dX10_init_270 : decode cX10_init 270 = .ok (.putfield 99, 3) := by decide +kernel
theorem dX10_init_273 : decode cX10_init 273 = .ok (.aload_n 0, 1) := by decide +kernel
theorem dX10_init_274 : decode cX10_init 274 = .ok (.iconst 3, 1) := by decide +kernel
theorem dX10_init_275 : decode cX10_init 275 = .ok (.newarray .int, 2) := by decide +kernel
theorem dX10_init_277 : decode cX10_init 277 = .ok (.putfield 103, 3) := by decide +kernel
theorem dX10_init_280 : decode cX10_init 280 = .ok (.aload_n 0, 1) := by decide +kernel
theorem dX10_init_281 : decode cX10_init 281 = .ok (.bipush 6, 2) := by decide +kernel
theorem dX10_init_283 : decode cX10_init 283 = .ok (.newarray .int, 2) := by decide +kernel
theorem dX10_init_285 : decode cX10_init 285 = .ok (.putfield 106, 3) := by decide +kernel
theorem dX10_init_288 : decode cX10_init 288 = .ok (.return_, 1) := by decide +kernel
theorem dX10_thrown_0 : decode cX10_thrown 0 = .ok (.aload_n 0, 1) := by decide +kernel
theorem dX10_thrown_1 : decode cX10_thrown 1 = .ok (.getfield 109, 3) := by decide +kernel
theorem dX10_thrown_4 : decode cX10_thrown 4 = .ok (.ireturn, 1) := by decide +kernel
theorem dX10_raises_0 : decode cX10_raises 0 = .ok (.aload_n 0, 1) := by decide +kernel
theorem dX10_raises_1 : decode cX10_raises 1 = .ok (.iload_n 1, 1) := by decide +kernel
theorem dX10_raises_2 : decode cX10_raises 2 = .ok (.putfield 109, 3) := by decide +kernel
theorem dX10_raises_5 : decode cX10_raises 5 = .ok (.iconst 0, 1) := by decide +kernel
theorem dX10_raises_6 : decode cX10_raises 6 = .ok (.ireturn, 1) := by decide +kernel
theorem dX10_in_0 : decode cX10_in 0 = .ok (.iload_n 0, 1) := by decide +kernel
theorem dX10_in_1 : decode cX10_in 1 = .ok (.iload_n 1, 1) := by decide +kernel
theorem dX10_in_2 : decode cX10_in 2 = .ok (.if_icmp .lt 12, 3) := by decide +kernel
theorem dX10_in_5 : decode cX10_in 5 = .ok (.iload_n 0, 1) := by decide +kernel
theorem dX10_in_6 : decode cX10_in 6 = .ok (.iload_n 2, 1) := by decide +kernel
theorem dX10_in_7 : decode cX10_in 7 = .ok (.if_icmp .gt 7, 3) := by decide +kernel
theorem dX10_in_10 : decode cX10_in 10 = .ok (.iconst 1, 1) := by decide +kernel
theorem dX10_in_11 : decode cX10_in 11 = .ok (.goto 4, 3) := by decide +kernel
theorem dX10_in_14 : decode cX10_in 14 = .ok (.iconst 0, 1) := by decide +kernel
theorem dX10_in_15 : decode cX10_in 15 = .ok (.ireturn, 1) := by decide +kernel
theorem dX10_isPackage_0 : decode cX10_isPackage 0 = .ok (.iload_n 1, 1) := by decide +kernel
theorem dX10_isPackage_1 : decode cX10_isPackage 1 = .ok (.iconst 0, 1) := by decide +kernel
theorem dX10_isPackage_2 : decode cX10_isPackage 2 = .ok (.aload_n 0, 1) := by decide +kernel
theorem dX10_isPackage_3 : decode cX10_isPackage 3 = .ok (.getfield 112, 3) := by decide +kernel
theorem dX10_isPackage_6 : decode cX10_isPackage 6 = .ok (.iconst 1, 1) := by decide +kernel
theorem dX10_isPackage_7 : decode cX10_isPackage 7 = .ok (.isub, 1) := by decide +kernel
theorem dX10_isPackage_8 : decode cX10_isPackage 8 = .ok (.invokestatic 115, 3) := by decide +kernel
theorem dX10_isPackage_11 : decode cX10_isPackage 11 = .ok (.ireturn, 1) := by decide +kernel
theorem dX10_lacks_0 : decode cX10_lacks 0 = .ok (.aload_n 0, 1) := by decide +kernel
theorem dX10_lacks_1 : decode cX10_lacks 1 = .ok (.aload_n 0, 1) := by decide +kernel
theorem dX10_lacks_2 : decode cX10_lacks 2 = .ok (.iload_n 1, 1) := by decide +kernel
theorem dX10_lacks_3 : decode cX10_lacks 3 = .ok (.invokevirtual 119, 3) := by decide +kernel
theorem dX10_lacks_6 : decode cX10_lacks 6 = .ok (.ifCond .eq 7, 3) := by decide +kernel
theorem dX10_lacks_9 : decode cX10_lacks 9 = .ok (.iconst 0, 1) := by decide +kernel
theorem dX10_lacks_10 : decode cX10_lacks 10 = .ok (.goto 4, 3) := by decide +kernel
theorem dX10_lacks_13 : decode cX10_lacks 13 = .ok (.iconst 1, 1) := by decide +kernel
theorem dX10_lacks_14 : decode cX10_lacks 14 = .ok (.putfield 109, 3) := by decide +kernel
theorem dX10_lacks_17 : decode cX10_lacks 17 = .ok (.aload_n 0, 1) := by decide +kernel
theorem dX10_lacks_18 : decode cX10_lacks 18 = .ok (.getfield 109, 3) := by decide +kernel
theorem dX10_lacks_21 : decode cX10_lacks 21 = .ok (.ifCond .le 7, 3) := by decide +kernel
theorem dX10_lacks_24 : decode cX10_lacks 24 = .ok (.iconst 1, 1) := by decide +kernel
theorem dX10_lacks_25 : decode cX10_lacks 25 = .ok (.goto 4, 3) := by decide +kernel
theorem dX10_lacks_28 : decode cX10_lacks 28 = .ok (.iconst 0, 1) := by decide +kernel
theorem dX10_lacks_29 : decode cX10_lacks 29 = .ok (.ireturn, 1) := by decide +kernel
theorem dX10_addPackage_0 : decode cX10_addPackage 0 = .ok (.aload_n 0, 1) := by decide +kernel
theorem dX10_addPackage_1 : decode cX10_addPackage 1 = .ok (.iload_n 1, 1) := by decide +kernel
theorem dX10_addPackage_2 : decode cX10_addPackage 2 = .ok (.iconst 0, 1) := by decide +kernel
theorem dX10_addPackage_3 : decode cX10_addPackage 3 = .ok (.iconst 2, 1) := by decide +kernel
theorem dX10_addPackage_4 : decode cX10_addPackage 4 = .ok (.invokestatic 115, 3) := by decide +kernel
theorem dX10_addPackage_7 : decode cX10_addPackage 7 = .ok (.ifCond .ne 7, 3) := by decide +kernel
theorem dX10_addPackage_10 : decode cX10_addPackage 10 = .ok (.iconst 1, 1) := by decide +kernel
theorem dX10_addPackage_11 : decode cX10_addPackage 11 = .ok (.goto 17, 3) := by decide +kernel
theorem dX10_addPackage_14 : decode cX10_addPackage 14 = .ok (.aload_n 0, 1) := by decide +kernel
theorem dX10_addPackage_15 : decode cX10_addPackage 15 = .ok (.getfield 112, 3) := by decide +kernel
theorem dX10_addPackage_18 : decode cX10_addPackage 18 = .ok (.bipush 6, 2) := by decide +kernel
theorem dX10_addPackage_20 : decode cX10_addPackage 20 = .ok (.if_icmp .ne 7, 3) := by decide +kernel
theorem dX10_addPackage_23 : decode cX10_addPackage 23 = .ok (.iconst 2, 1) := by decide +kernel
theorem dX10_addPackage_24 : decode cX10_addPackage 24 = .ok (.goto 4, 3) := by decide +kernel
theorem dX10_addPackage_27 : decode cX10_addPackage 27 = .ok (.iconst 0, 1) := by decide +kernel
theorem dX10_addPackage_28 : decode cX10_addPackage 28 = .ok (.putfield 109, 3) := by decide +kernel
theorem dX10_addPackage_31 : decode cX10_addPackage 31 = .ok (.aload_n 0, 1) := by decide +kernel
theorem dX10_addPackage_32 : decode cX10_addPackage 32 = .ok (.getfield 109, 3) := by decide +kernel
theorem dX10_addPackage_35 : decode cX10_addPackage 35 = .ok (.ifCond .le 5, 3) := by decide +kernel
theorem dX10_addPackage_38 : decode cX10_addPackage 38 = .ok (.iconst 0, 1) := by decide +kernel
theorem dX10_addPackage_39 : decode cX10_addPackage 39 = .ok (.ireturn, 1) := by decide +kernel
theorem dX10_addPackage_40 : decode cX10_addPackage 40 = .ok (.aload_n 0, 1) := by decide +kernel
theorem dX10_addPackage_41 : decode cX10_addPackage 41 = .ok (.getfield 9, 3) := by decide +kernel
theorem dX10_addPackage_44 : decode cX10_addPackage 44 = .ok (.aload_n 0, 1) := by decide +kernel
theorem dX10_addPackage_45 : decode cX10_addPackage 45 = .ok (.getfield 112, 3) := by decide +kernel
theorem dX10_addPackage_48 : decode cX10_addPackage 48 = .ok (.iload_n 1, 1) := by decide +kernel
theorem dX10_addPackage_49 : decode cX10_addPackage 49 = .ok (.iastore, 1) := by decide +kernel
theorem dX10_addPackage_50 : decode cX10_addPackage 50 = .ok (.aload_n 0, 1) := by decide +kernel
theorem dX10_addPackage_51 : decode cX10_addPackage 51 = .ok (.dup, 1) := by decide +kernel
theorem dX10_addPackage_52 : decode cX10_addPackage 52 = .ok (.getfield 112, 3) := by decide +kernel
theorem dX10_addPackage_55 : decode cX10_addPackage 55 = .ok (.iconst 1, 1) := by decide +kernel
theorem dX10_addPackage_56 : decode cX10_addPackage 56 = .ok (.iadd, 1) := by decide +kernel
theorem dX10_addPackage_57 : decode cX10_addPackage 57 = .ok (.putfield 112, 3) := by decide +kernel
theorem dX10_addPackage_60 : decode cX10_addPackage 60 = .ok (.aload_n 0, 1) := by decide +kernel
theorem dX10_addPackage_61 : decode cX10_addPackage 61 = .ok (.getfield 112, 3) := by decide +kernel
theorem dX10_addPackage_64 : decode cX10_addPackage 64 = .ok (.iconst 1, 1) := by decide +kernel
theorem dX10_addPackage_65 : decode cX10_addPackage 65 = .ok (.isub, 1) := by decide +kernel
theorem dX10_addPackage_66 : decode cX10_addPackage 66 = .ok (.ireturn, 1) := by decide +kernel
theorem dX10_setSource_0 : decode cX10_setSource 0 = .ok (.aload_n 0, 1) := by decide +kernel
theorem dX10_setSource_1 : decode cX10_setSource 1 = .ok (.iload_n 1, 1) := by decide +kernel
theorem dX10_setSource_2 : decode cX10_setSource 2 = .ok (.invokevirtual 123, 3) := by decide +kernel
theorem dX10_setSource_5 : decode cX10_setSource 5 = .ok (.ifCond .eq 5, 3) := by decide +kernel
theorem dX10_setSource_8 : decode cX10_setSource 8 = .ok (.iconst 0, 1) := by decide +kernel
theorem dX10_setSource_9 : decode cX10_setSource 9 = .ok (.ireturn, 1) := by decide +kernel
theorem dX10_setSource_10 : decode cX10_setSource 10 = .ok (.iload_n 2, 1) := by decide +kernel
theorem dX10_setSource_11 : decode cX10_setSource 11 = .ok (.iconst 0, 1) := by decide +kernel
theorem dX10_setSource_12 : decode cX10_setSource 12 = .ok (.sipush 999, 3) := by decide +kernel
theorem dX10_setSource_15 : decode cX10_setSource 15 = .ok (.invokestatic 115, 3) := by decide +kernel
theorem dX10_setSource_18 : decode cX10_setSource 18 = .ok (.ifCond .eq 14, 3) := by decide +kernel
theorem dX10_setSource_21 : decode cX10_setSource 21 = .ok (.iload_n 3, 1) := by decide +kernel
theorem dX10_setSource_22 : decode cX10_setSource 22 = .ok (.iconst 0, 1) := by decide +kernel
theorem dX10_setSource_23 : decode cX10_setSource 23 = .ok (.sipush 999, 3) := by decide +kernel
theorem dX10_setSource_26 : decode cX10_setSource 26 = .ok (.invokestatic 115, 3) := by decide +kernel
theorem dX10_setSource_29 : decode cX10_setSource 29 = .ok (.ifCond .ne 9, 3) := by decide +kernel
theorem dX10_setSource_32 : decode cX10_setSource 32 = .ok (.aload_n 0, 1) := by decide +kernel
theorem dX10_setSource_33 : decode cX10_setSource 33 = .ok (.iconst 2, 1) := by decide +kernel
theorem dX10_setSource_34 : decode cX10_setSource 34 = .ok (.invokevirtual 126, 3) := by decide +kernel
theorem dX10_setSource_37 : decode cX10_setSource 37 = .ok (.ireturn, 1) := by decide +kernel
theorem dX10_setSource_38 : decode cX10_setSource 38 = .ok (.aload_n 0, 1) := by decide +kernel
theorem dX10_setSource_39 : decode cX10_setSource 39 = .ok (.getfield 13, 3) := by decide +kernel
theorem dX10_setSource_42 : decode cX10_setSource 42 = .ok (.iload_n 1, 1) := by decide +kernel
theorem dX10_setSource_43 : decode cX10_setSource 43 = .ok (.iaload, 1) := by decide +kernel
theorem dX10_setSource_44 : decode cX10_setSource 44 = .ok (.iload_n 2, 1) := by decide +kernel
theorem dX10_setSource_45 : decode cX10_setSource 45 = .ok (.if_icmp .ne 7, 3) := by decide +kernel
theorem dX10_setSource_48 : decode cX10_setSource 48 = .ok (.iconst 0, 1) := by decide +kernel
theorem dX10_setSource_49 : decode cX10_setSource 49 = .ok (.goto 4, 3) := by decide +kernel
theorem dX10_setSource_52 : decode cX10_setSource 52 = .ok (.iconst 1, 1) := by decide +kernel
theorem dX10_setSource_53 : decode cX10_setSource 53 = .ok (.aload_n 0, 1) := by decide +kernel
theorem dX10_setSource_54 : decode cX10_setSource 54 = .ok (.getfield 16, 3) := by decide +kernel
theorem dX10_setSource_57 : decode cX10_setSource 57 = .ok (.iload_n 1, 1) := by decide +kernel
theorem dX10_setSource_58 : decode cX10_setSource 58 = .ok (.iaload, 1) := by decide +kernel
theorem dX10_setSource_59 : decode cX10_setSource 59 = .ok (.iload_n 3, 1) := by decide +kernel
theorem dX10_setSource_60 : decode cX10_setSource 60 = .ok (.if_icmp .ne 7, 3) := by decide +kernel
theorem dX10_setSource_63 : decode cX10_setSource 63 = .ok (.iconst 0, 1) := by decide +kernel
theorem dX10_setSource_64 : decode cX10_setSource 64 = .ok (.goto 4, 3) := by decide +kernel
theorem dX10_setSource_67 : decode cX10_setSource 67 = .ok (.iconst 1, 1) := by decide +kernel
theorem dX10_setSource_68 : decode cX10_setSource 68 = .ok (.iadd, 1) := by decide +kernel
theorem dX10_setSource_69 : decode cX10_setSource 69 = .ok (.istore 4, 2) := by decide +kernel
theorem dX10_setSource_71 : decode cX10_setSource 71 = .ok (.aload_n 0, 1) := by decide +kernel
theorem dX10_setSource_72 : decode cX10_setSource 72 = .ok (.getfield 13, 3) := by decide +kernel
theorem dX10_setSource_75 : decode cX10_setSource 75 = .ok (.iload_n 1, 1) := by decide +kernel
theorem dX10_setSource_76 : decode cX10_setSource 76 = .ok (.iload_n 2, 1) := by decide +kernel
theorem dX10_setSource_77 : decode cX10_setSource 77 = .ok (.iastore, 1) := by decide +kernel
theorem dX10_setSource_78 : decode cX10_setSource 78 = .ok (.aload_n 0, 1) := by decide +kernel
theorem dX10_setSource_79 : decode cX10_setSource 79 = .ok (.getfield 16, 3) := by decide +kernel
theorem dX10_setSource_82 : decode cX10_setSource 82 = .ok (.iload_n 1, 1) := by decide +kernel
theorem dX10_setSource_83 : decode cX10_setSource 83 = .ok (.iload_n 3, 1) := by decide +kernel
theorem dX10_setSource_84 : decode cX10_setSource 84 = .ok (.iastore, 1) := by decide +kernel
theorem dX10_setSource_85 : decode cX10_setSource 85 = .ok (.iload 4, 2) := by decide +kernel
theorem dX10_setSource_87 : decode cX10_setSource 87 = .ok (.ireturn, 1) := by decide +kernel
theorem dX10_needsOf_0 : decode cX10_needsOf 0 = .ok (.iconst 0, 1) := by decide +kernel
theorem dX10_needsOf_1 : decode cX10_needsOf 1 = .ok (.istore_n 2, 1) := by decide +kernel
theorem dX10_needsOf_2 : decode cX10_needsOf 2 = .ok (.iconst 0, 1) := by decide +kernel
theorem dX10_needsOf_3 : decode cX10_needsOf 3 = .ok (.istore_n 3, 1) := by decide +kernel
theorem dX10_needsOf_4 : decode cX10_needsOf 4 = .ok (.iload_n 3, 1) := by decide +kernel
theorem dX10_needsOf_5 : decode cX10_needsOf 5 = .ok (.bipush 6, 2) := by decide +kernel
theorem dX10_needsOf_7 : decode cX10_needsOf 7 = .ok (.if_icmp .ge 30, 3) := by decide +kernel
theorem dX10_needsOf_10 : decode cX10_needsOf 10 = .ok (.iload_n 2, 1) := by decide +kernel
theorem dX10_needsOf_11 : decode cX10_needsOf 11 = .ok (.aload_n 0, 1) := by decide +kernel
theorem dX10_needsOf_12 : decode cX10_needsOf 12 = .ok (.getfield 21, 3) := by decide +kernel
theorem dX10_needsOf_15 : decode cX10_needsOf 15 = .ok (.iload_n 1, 1) := by decide +kernel
theorem dX10_needsOf_16 : decode cX10_needsOf 16 = .ok (.aaload, 1) := by decide +kernel
theorem dX10_needsOf_17 : decode cX10_needsOf 17 = .ok (.iload_n 3, 1) := by decide +kernel
theorem dX10_needsOf_18 : decode cX10_needsOf 18 = .ok (.iaload, 1) := by decide +kernel
theorem dX10_needsOf_19 : decode cX10_needsOf 19 = .ok (.ifCond .le 9, 3) := by decide +kernel
theorem dX10_needsOf_22 : decode cX10_needsOf 22 = .ok (.iconst 1, 1) := by decide +kernel
theorem dX10_needsOf_23 : decode cX10_needsOf 23 = .ok (.iload_n 3, 1) := by decide +kernel
theorem dX10_needsOf_24 : decode cX10_needsOf 24 = .ok (.ishl, 1) := by decide +kernel
theorem dX10_needsOf_25 : decode cX10_needsOf 25 = .ok (.goto 4, 3) := by decide +kernel
theorem dX10_needsOf_28 : decode cX10_needsOf 28 = .ok (.iconst 0, 1) := by decide +kernel
theorem dX10_needsOf_29 : decode cX10_needsOf 29 = .ok (.ior, 1) := by decide +kernel
theorem dX10_needsOf_30 : decode cX10_needsOf 30 = .ok (.istore_n 2, 1) := by decide +kernel
theorem dX10_needsOf_31 : decode cX10_needsOf 31 = .ok (.iinc 3 1, 3) := by decide +kernel
theorem dX10_needsOf_34 : decode cX10_needsOf 34 = .ok (.goto (-30), 3) := by decide +kernel
theorem dX10_needsOf_37 : decode cX10_needsOf 37 = .ok (.iload_n 2, 1) := by decide +kernel
theorem dX10_needsOf_38 : decode cX10_needsOf 38 = .ok (.ireturn, 1) := by decide +kernel
theorem dX10_need_0 : decode cX10_need 0 = .ok (.aload_n 0, 1) := by decide +kernel
theorem dX10_need_1 : decode cX10_need 1 = .ok (.aload_n 0, 1) := by decide +kernel
theorem dX10_need_2 : decode cX10_need 2 = .ok (.iload_n 1, 1) := by decide +kernel
theorem dX10_need_3 : decode cX10_need 3 = .ok (.invokevirtual 119, 3) := by decide +kernel
theorem dX10_need_6 : decode cX10_need 6 = .ok (.ifCond .eq 11, 3) := by decide +kernel
theorem dX10_need_9 : decode cX10_need 9 = .ok (.aload_n 0, 1) := by decide +kernel
theorem dX10_need_10 : decode cX10_need 10 = .ok (.iload_n 2, 1) := by decide +kernel
theorem dX10_need_11 : decode cX10_need 11 = .ok (.invokevirtual 119, 3) := by decide +kernel
theorem dX10_need_14 : decode cX10_need 14 = .ok (.ifCond .ne 7, 3) := by decide +kernel
theorem dX10_need_17 : decode cX10_need 17 = .ok (.iconst 1, 1) := by decide +kernel
theorem dX10_need_18 : decode cX10_need 18 = .ok (.goto 37, 3) := by decide +kernel
theorem dX10_need_21 : decode cX10_need 21 = .ok (.iload_n 2, 1) := by decide +kernel
theorem dX10_need_22 : decode cX10_need 22 = .ok (.iload_n 1, 1) := by decide +kernel
theorem dX10_need_23 : decode cX10_need 23 = .ok (.if_icmp .ge 27, 3) := by decide +kernel
theorem dX10_need_26 : decode cX10_need 26 = .ok (.iload_n 3, 1) := by decide +kernel
theorem dX10_need_27 : decode cX10_need 27 = .ok (.bipush 100, 2) := by decide +kernel
theorem dX10_need_29 : decode cX10_need 29 = .ok (.sipush 999, 3) := by decide +kernel
theorem dX10_need_32 : decode cX10_need 32 = .ok (.invokestatic 115, 3) := by decide +kernel
theorem dX10_need_35 : decode cX10_need 35 = .ok (.ifCond .eq 15, 3) := by decide +kernel
theorem dX10_need_38 : decode cX10_need 38 = .ok (.iload 4, 2) := by decide +kernel
theorem dX10_need_40 : decode cX10_need 40 = .ok (.iload_n 3, 1) := by decide +kernel
theorem dX10_need_41 : decode cX10_need 41 = .ok (.sipush 999, 3) := by decide +kernel
theorem dX10_need_44 : decode cX10_need 44 = .ok (.invokestatic 115, 3) := by decide +kernel
theorem dX10_need_47 : decode cX10_need 47 = .ok (.ifCond .ne 7, 3) := by decide +kernel
theorem dX10_need_50 : decode cX10_need 50 = .ok (.iconst 2, 1) := by decide +kernel
theorem dX10_need_51 : decode cX10_need 51 = .ok (.goto 4, 3) := by decide +kernel
theorem dX10_need_54 : decode cX10_need 54 = .ok (.iconst 0, 1) := by decide +kernel
theorem dX10_need_55 : decode cX10_need 55 = .ok (.putfield 109, 3) := by decide +kernel
theorem dX10_need_58 : decode cX10_need 58 = .ok (.aload_n 0, 1) := by decide +kernel
theorem dX10_need_59 : decode cX10_need 59 = .ok (.getfield 109, 3) := by decide +kernel
theorem dX10_need_62 : decode cX10_need 62 = .ok (.ifCond .le 5, 3) := by decide +kernel
theorem dX10_need_65 : decode cX10_need 65 = .ok (.iconst 0, 1) := by decide +kernel
theorem dX10_need_66 : decode cX10_need 66 = .ok (.ireturn, 1) := by decide +kernel
theorem dX10_need_67 : decode cX10_need 67 = .ok (.aload_n 0, 1) := by decide +kernel
theorem dX10_need_68 : decode cX10_need 68 = .ok (.getfield 21, 3) := by decide +kernel
theorem dX10_need_71 : decode cX10_need 71 = .ok (.iload_n 1, 1) := by decide +kernel
theorem dX10_need_72 : decode cX10_need 72 = .ok (.aaload, 1) := by decide +kernel
theorem dX10_need_73 : decode cX10_need 73 = .ok (.iload_n 2, 1) := by decide +kernel
theorem dX10_need_74 : decode cX10_need 74 = .ok (.iload_n 3, 1) := by decide +kernel
theorem dX10_need_75 : decode cX10_need 75 = .ok (.iastore, 1) := by decide +kernel
theorem dX10_need_76 : decode cX10_need 76 = .ok (.aload_n 0, 1) := by decide +kernel
theorem dX10_need_77 : decode cX10_need 77 = .ok (.getfield 24, 3) := by decide +kernel
theorem dX10_need_80 : decode cX10_need 80 = .ok (.iload_n 1, 1) := by decide +kernel
theorem dX10_need_81 : decode cX10_need 81 = .ok (.aaload, 1) := by decide +kernel
theorem dX10_need_82 : decode cX10_need 82 = .ok (.iload_n 2, 1) := by decide +kernel
theorem dX10_need_83 : decode cX10_need 83 = .ok (.iload 4, 2) := by decide +kernel
theorem dX10_need_85 : decode cX10_need 85 = .ok (.iastore, 1) := by decide +kernel
theorem dX10_need_86 : decode cX10_need 86 = .ok (.aload_n 0, 1) := by decide +kernel
theorem dX10_need_87 : decode cX10_need 87 = .ok (.iload_n 1, 1) := by decide +kernel
theorem dX10_need_88 : decode cX10_need 88 = .ok (.invokevirtual 130, 3) := by decide +kernel
theorem dX10_need_91 : decode cX10_need 91 = .ok (.invokestatic 133, 3) := by decide +kernel
theorem dX10_need_94 : decode cX10_need 94 = .ok (.ireturn, 1) := by decide +kernel
theorem dX10_dropNeed_0 : decode cX10_dropNeed 0 = .ok (.aload_n 0, 1) := by decide +kernel
theorem dX10_dropNeed_1 : decode cX10_dropNeed 1 = .ok (.aload_n 0, 1) := by decide +kernel
theorem dX10_dropNeed_2 : decode cX10_dropNeed 2 = .ok (.iload_n 1, 1) := by decide +kernel
theorem dX10_dropNeed_3 : decode cX10_dropNeed 3 = .ok (.invokevirtual 119, 3) := by decide +kernel
theorem dX10_dropNeed_6 : decode cX10_dropNeed 6 = .ok (.ifCond .eq 11, 3) := by decide +kernel
theorem dX10_dropNeed_9 : decode cX10_dropNeed 9 = .ok (.aload_n 0, 1) := by decide +kernel
theorem dX10_dropNeed_10 : decode cX10_dropNeed 10 = .ok (.iload_n 2, 1) := by decide +kernel
theorem dX10_dropNeed_11 : decode cX10_dropNeed 11 = .ok (.invokevirtual 119, 3) := by decide +kernel
theorem dX10_dropNeed_14 : decode cX10_dropNeed 14 = .ok (.ifCond .ne 7, 3) := by decide +kernel
theorem dX10_dropNeed_17 : decode cX10_dropNeed 17 = .ok (.iconst 1, 1) := by decide +kernel
theorem dX10_dropNeed_18 : decode cX10_dropNeed 18 = .ok (.goto 19, 3) := by decide +kernel
theorem dX10_dropNeed_21 : decode cX10_dropNeed 21 = .ok (.aload_n 0, 1) := by decide +kernel
theorem dX10_dropNeed_22 : decode cX10_dropNeed 22 = .ok (.getfield 21, 3) := by decide +kernel
theorem dX10_dropNeed_25 : decode cX10_dropNeed 25 = .ok (.iload_n 1, 1) := by decide +kernel
theorem dX10_dropNeed_26 : decode cX10_dropNeed 26 = .ok (.aaload, 1) := by decide +kernel
theorem dX10_dropNeed_27 : decode cX10_dropNeed 27 = .ok (.iload_n 2, 1) := by decide +kernel
theorem dX10_dropNeed_28 : decode cX10_dropNeed 28 = .ok (.iaload, 1) := by decide +kernel
theorem dX10_dropNeed_29 : decode cX10_dropNeed 29 = .ok (.ifCond .ne 7, 3) := by decide +kernel
theorem dX10_dropNeed_32 : decode cX10_dropNeed 32 = .ok (.iconst 2, 1) := by decide +kernel
theorem dX10_dropNeed_33 : decode cX10_dropNeed 33 = .ok (.goto 4, 3) := by decide +kernel
theorem dX10_dropNeed_36 : decode cX10_dropNeed 36 = .ok (.iconst 0, 1) := by decide +kernel
theorem dX10_dropNeed_37 : decode cX10_dropNeed 37 = .ok (.putfield 109, 3) := by decide +kernel
theorem dX10_dropNeed_40 : decode cX10_dropNeed 40 = .ok (.aload_n 0, 1) := by decide +kernel
theorem dX10_dropNeed_41 : decode cX10_dropNeed 41 = .ok (.getfield 109, 3) := by decide +kernel
theorem dX10_dropNeed_44 : decode cX10_dropNeed 44 = .ok (.ifCond .le 5, 3) := by decide +kernel
theorem dX10_dropNeed_47 : decode cX10_dropNeed 47 = .ok (.iconst 0, 1) := by decide +kernel
theorem dX10_dropNeed_48 : decode cX10_dropNeed 48 = .ok (.ireturn, 1) := by decide +kernel
theorem dX10_dropNeed_49 : decode cX10_dropNeed 49 = .ok (.aload_n 0, 1) := by decide +kernel
theorem dX10_dropNeed_50 : decode cX10_dropNeed 50 = .ok (.getfield 21, 3) := by decide +kernel
theorem dX10_dropNeed_53 : decode cX10_dropNeed 53 = .ok (.iload_n 1, 1) := by decide +kernel
theorem dX10_dropNeed_54 : decode cX10_dropNeed 54 = .ok (.aaload, 1) := by decide +kernel
theorem dX10_dropNeed_55 : decode cX10_dropNeed 55 = .ok (.iload_n 2, 1) := by decide +kernel
theorem dX10_dropNeed_56 : decode cX10_dropNeed 56 = .ok (.iconst 0, 1) := by decide +kernel
theorem dX10_dropNeed_57 : decode cX10_dropNeed 57 = .ok (.iastore, 1) := by decide +kernel
theorem dX10_dropNeed_58 : decode cX10_dropNeed 58 = .ok (.aload_n 0, 1) := by decide +kernel
theorem dX10_dropNeed_59 : decode cX10_dropNeed 59 = .ok (.getfield 24, 3) := by decide +kernel
theorem dX10_dropNeed_62 : decode cX10_dropNeed 62 = .ok (.iload_n 1, 1) := by decide +kernel
theorem dX10_dropNeed_63 : decode cX10_dropNeed 63 = .ok (.aaload, 1) := by decide +kernel
theorem dX10_dropNeed_64 : decode cX10_dropNeed 64 = .ok (.iload_n 2, 1) := by decide +kernel
theorem dX10_dropNeed_65 : decode cX10_dropNeed 65 = .ok (.iconst 0, 1) := by decide +kernel
theorem dX10_dropNeed_66 : decode cX10_dropNeed 66 = .ok (.iastore, 1) := by decide +kernel
theorem dX10_dropNeed_67 : decode cX10_dropNeed 67 = .ok (.aload_n 0, 1) := by decide +kernel
theorem dX10_dropNeed_68 : decode cX10_dropNeed 68 = .ok (.iload_n 1, 1) := by decide +kernel
theorem dX10_dropNeed_69 : decode cX10_dropNeed 69 = .ok (.invokevirtual 130, 3) := by decide +kernel
theorem dX10_dropNeed_72 : decode cX10_dropNeed 72 = .ok (.invokestatic 133, 3) := by decide +kernel
theorem dX10_dropNeed_75 : decode cX10_dropNeed 75 = .ok (.ireturn, 1) := by decide +kernel
theorem dX10_fits_0 : decode cX10_fits 0 = .ok (.aload_n 0, 1) := by decide +kernel
theorem dX10_fits_1 : decode cX10_fits 1 = .ok (.getfield 61, 3) := by decide +kernel
theorem dX10_fits_4 : decode cX10_fits 4 = .ok (.iload_n 1, 1) := by decide +kernel
theorem dX10_fits_5 : decode cX10_fits 5 = .ok (.iaload, 1) := by decide +kernel
theorem dX10_fits_6 : decode cX10_fits 6 = .ok (.istore 4, 2) := by decide +kernel
theorem dX10_fits_8 : decode cX10_fits 8 = .ok (.aload_n 0, 1) := by decide +kernel
theorem dX10_fits_9 : decode cX10_fits 9 = .ok (.getfield 64, 3) := by decide +kernel
theorem dX10_fits_12 : decode cX10_fits 12 = .ok (.iload_n 1, 1) := by decide +kernel
theorem dX10_fits_13 : decode cX10_fits 13 = .ok (.iaload, 1) := by decide +kernel
theorem dX10_fits_14 : decode cX10_fits 14 = .ok (.istore 5, 2) := by decide +kernel
theorem dX10_fits_16 : decode cX10_fits 16 = .ok (.aload_n 0, 1) := by decide +kernel
theorem dX10_fits_17 : decode cX10_fits 17 = .ok (.getfield 79, 3) := by decide +kernel
theorem dX10_fits_20 : decode cX10_fits 20 = .ok (.iload_n 1, 1) := by decide +kernel
theorem dX10_fits_21 : decode cX10_fits 21 = .ok (.baload, 1) := by decide +kernel
theorem dX10_fits_22 : decode cX10_fits 22 = .ok (.ifCond .ne 30, 3) := by decide +kernel
theorem dX10_fits_25 : decode cX10_fits 25 = .ok (.aload_n 2, 1) := by decide +kernel
theorem dX10_fits_26 : decode cX10_fits 26 = .ok (.iload 4, 2) := by decide +kernel
theorem dX10_fits_28 : decode cX10_fits 28 = .ok (.iaload, 1) := by decide +kernel
theorem dX10_fits_29 : decode cX10_fits 29 = .ok (.ifCond .eq 19, 3) := by decide +kernel
theorem dX10_fits_32 : decode cX10_fits 32 = .ok (.iload 5, 2) := by decide +kernel
theorem dX10_fits_34 : decode cX10_fits 34 = .ok (.aload_n 2, 1) := by decide +kernel
theorem dX10_fits_35 : decode cX10_fits 35 = .ok (.iload 4, 2) := by decide +kernel
theorem dX10_fits_37 : decode cX10_fits 37 = .ok (.iaload, 1) := by decide +kernel
theorem dX10_fits_38 : decode cX10_fits 38 = .ok (.aload_n 3, 1) := by decide +kernel
theorem dX10_fits_39 : decode cX10_fits 39 = .ok (.iload 4, 2) := by decide +kernel
theorem dX10_fits_41 : decode cX10_fits 41 = .ok (.iaload, 1) := by decide +kernel
theorem dX10_fits_42 : decode cX10_fits 42 = .ok (.invokestatic 115, 3) := by decide +kernel
theorem dX10_fits_45 : decode cX10_fits 45 = .ok (.ifCond .eq 7, 3) := by decide +kernel
theorem dX10_fits_48 : decode cX10_fits 48 = .ok (.iconst 1, 1) := by decide +kernel
theorem dX10_fits_49 : decode cX10_fits 49 = .ok (.goto 4, 3) := by decide +kernel
theorem dX10_fits_52 : decode cX10_fits 52 = .ok (.iconst 0, 1) := by decide +kernel
theorem dX10_fits_53 : decode cX10_fits 53 = .ok (.istore 6, 2) := by decide +kernel
theorem dX10_fits_55 : decode cX10_fits 55 = .ok (.iload 4, 2) := by decide +kernel
theorem dX10_fits_57 : decode cX10_fits 57 = .ok (.iconst 1, 1) := by decide +kernel
theorem dX10_fits_58 : decode cX10_fits 58 = .ok (.iadd, 1) := by decide +kernel
theorem dX10_fits_59 : decode cX10_fits 59 = .ok (.istore 7, 2) := by decide +kernel
theorem dX10_fits_61 : decode cX10_fits 61 = .ok (.iload 7, 2) := by decide +kernel
theorem dX10_fits_63 : decode cX10_fits 63 = .ok (.bipush 6, 2) := by decide +kernel
theorem dX10_fits_65 : decode cX10_fits 65 = .ok (.if_icmp .ge 77, 3) := by decide +kernel
theorem dX10_fits_68 : decode cX10_fits 68 = .ok (.aload_n 0, 1) := by decide +kernel
theorem dX10_fits_69 : decode cX10_fits 69 = .ok (.getfield 106, 3) := by decide +kernel
theorem dX10_fits_72 : decode cX10_fits 72 = .ok (.iload 7, 2) := by decide +kernel
theorem dX10_fits_74 : decode cX10_fits 74 = .ok (.iaload, 1) := by decide +kernel
theorem dX10_fits_75 : decode cX10_fits 75 = .ok (.istore 8, 2) := by decide +kernel
theorem dX10_fits_77 : decode cX10_fits 77 = .ok (.iload 6, 2) := by decide +kernel
theorem dX10_fits_79 : decode cX10_fits 79 = .ok (.ifCond .eq 54, 3) := by decide +kernel
theorem dX10_fits_82 : decode cX10_fits 82 = .ok (.iload 8, 2) := by decide +kernel
theorem dX10_fits_84 : decode cX10_fits 84 = .ok (.iconst (-1), 1) := by decide +kernel
theorem dX10_fits_85 : decode cX10_fits 85 = .ok (.if_icmp .eq 44, 3) := by decide +kernel
theorem dX10_fits_88 : decode cX10_fits 88 = .ok (.aload_n 0, 1) := by decide +kernel
theorem dX10_fits_89 : decode cX10_fits 89 = .ok (.getfield 70, 3) := by decide +kernel
theorem dX10_fits_92 : decode cX10_fits 92 = .ok (.iload 8, 2) := by decide +kernel
theorem dX10_fits_94 : decode cX10_fits 94 = .ok (.aaload, 1) := by decide +kernel
theorem dX10_fits_95 : decode cX10_fits 95 = .ok (.iload 4, 2) := by decide +kernel
theorem dX10_fits_97 : decode cX10_fits 97 = .ok (.iaload, 1) := by decide +kernel
theorem dX10_fits_98 : decode cX10_fits 98 = .ok (.ifCond .eq 31, 3) := by decide +kernel
theorem dX10_fits_101 : decode cX10_fits 101 = .ok (.iload 5, 2) := by decide +kernel
theorem dX10_fits_103 : decode cX10_fits 103 = .ok (.aload_n 0, 1) := by decide +kernel
theorem dX10_fits_104 : decode cX10_fits 104 = .ok (.getfield 70, 3) := by decide +kernel
theorem dX10_fits_107 : decode cX10_fits 107 = .ok (.iload 8, 2) := by decide +kernel
theorem dX10_fits_109 : decode cX10_fits 109 = .ok (.aaload, 1) := by decide +kernel
theorem dX10_fits_110 : decode cX10_fits 110 = .ok (.iload 4, 2) := by decide +kernel
theorem dX10_fits_112 : decode cX10_fits 112 = .ok (.iaload, 1) := by decide +kernel
theorem dX10_fits_113 : decode cX10_fits 113 = .ok (.aload_n 0, 1) := by decide +kernel
theorem dX10_fits_114 : decode cX10_fits 114 = .ok (.getfield 73, 3) := by decide +kernel
theorem dX10_fits_117 : decode cX10_fits 117 = .ok (.iload 8, 2) := by decide +kernel
theorem dX10_fits_119 : decode cX10_fits 119 = .ok (.aaload, 1) := by decide +kernel
theorem dX10_fits_120 : decode cX10_fits 120 = .ok (.iload 4, 2) := by decide +kernel
theorem dX10_fits_122 : decode cX10_fits 122 = .ok (.iaload, 1) := by decide +kernel
theorem dX10_fits_123 : decode cX10_fits 123 = .ok (.invokestatic 115, 3) := by decide +kernel
theorem dX10_fits_126 : decode cX10_fits 126 = .ok (.ifCond .eq 7, 3) := by decide +kernel
theorem dX10_fits_129 : decode cX10_fits 129 = .ok (.iconst 1, 1) := by decide +kernel
theorem dX10_fits_130 : decode cX10_fits 130 = .ok (.goto 4, 3) := by decide +kernel
theorem dX10_fits_133 : decode cX10_fits 133 = .ok (.iconst 0, 1) := by decide +kernel
theorem dX10_fits_134 : decode cX10_fits 134 = .ok (.istore 6, 2) := by decide +kernel
theorem dX10_fits_136 : decode cX10_fits 136 = .ok (.iinc 7 1, 3) := by decide +kernel
theorem dX10_fits_139 : decode cX10_fits 139 = .ok (.goto (-78), 3) := by decide +kernel
theorem dX10_fits_142 : decode cX10_fits 142 = .ok (.iload 6, 2) := by decide +kernel
theorem dX10_fits_144 : decode cX10_fits 144 = .ok (.ireturn, 1) := by decide +kernel
theorem dX10_isReached_0 : decode cX10_isReached 0 = .ok (.aload_n 2, 1) := by decide +kernel
theorem dX10_isReached_1 : decode cX10_isReached 1 = .ok (.iload_n 1, 1) := by decide +kernel
theorem dX10_isReached_2 : decode cX10_isReached 2 = .ok (.iaload, 1) := by decide +kernel
theorem dX10_isReached_3 : decode cX10_isReached 3 = .ok (.ifCond .le 7, 3) := by decide +kernel
theorem dX10_isReached_6 : decode cX10_isReached 6 = .ok (.iconst 1, 1) := by decide +kernel
theorem dX10_isReached_7 : decode cX10_isReached 7 = .ok (.goto 4, 3) := by decide +kernel
theorem dX10_isReached_10 : decode cX10_isReached 10 = .ok (.iconst 0, 1) := by decide +kernel
theorem dX10_isReached_11 : decode cX10_isReached 11 = .ok (.istore_n 3, 1) := by decide +kernel
theorem dX10_isReached_12 : decode cX10_isReached 12 = .ok (.iload_n 1, 1) := by decide +kernel
theorem dX10_isReached_13 : decode cX10_isReached 13 = .ok (.iconst 1, 1) := by decide +kernel
theorem dX10_isReached_14 : decode cX10_isReached 14 = .ok (.iadd, 1) := by decide +kernel
theorem dX10_isReached_15 : decode cX10_isReached 15 = .ok (.istore 4, 2) := by decide +kernel
theorem dX10_isReached_17 : decode cX10_isReached 17 = .ok (.iload 4, 2) := by decide +kernel
theorem dX10_isReached_19 : decode cX10_isReached 19 = .ok (.bipush 6, 2) := by decide +kernel
theorem dX10_isReached_21 : decode cX10_isReached 21 = .ok (.if_icmp .ge 47, 3) := by decide +kernel
theorem dX10_isReached_24 : decode cX10_isReached 24 = .ok (.iload_n 3, 1) := by decide +kernel
theorem dX10_isReached_25 : decode cX10_isReached 25 = .ok (.ifCond .ne 31, 3) := by decide +kernel
theorem dX10_isReached_28 : decode cX10_isReached 28 = .ok (.aload_n 0, 1) := by decide +kernel
theorem dX10_isReached_29 : decode cX10_isReached 29 = .ok (.getfield 106, 3) := by decide +kernel
theorem dX10_isReached_32 : decode cX10_isReached 32 = .ok (.iload 4, 2) := by decide +kernel
theorem dX10_isReached_34 : decode cX10_isReached 34 = .ok (.iaload, 1) := by decide +kernel
theorem dX10_isReached_35 : decode cX10_isReached 35 = .ok (.iconst (-1), 1) := by decide +kernel
theorem dX10_isReached_36 : decode cX10_isReached 36 = .ok (.if_icmp .eq 24, 3) := by decide +kernel
theorem dX10_isReached_39 : decode cX10_isReached 39 = .ok (.aload_n 0, 1) := by decide +kernel
theorem dX10_isReached_40 : decode cX10_isReached 40 = .ok (.getfield 70, 3) := by decide +kernel
theorem dX10_isReached_43 : decode cX10_isReached 43 = .ok (.aload_n 0, 1) := by decide +kernel
theorem dX10_isReached_44 : decode cX10_isReached 44 = .ok (.getfield 106, 3) := by decide +kernel
theorem dX10_isReached_47 : decode cX10_isReached 47 = .ok (.iload 4, 2) := by decide +kernel
theorem dX10_isReached_49 : decode cX10_isReached 49 = .ok (.iaload, 1) := by decide +kernel
theorem dX10_isReached_50 : decode cX10_isReached 50 = .ok (.aaload, 1) := by decide +kernel
theorem dX10_isReached_51 : decode cX10_isReached 51 = .ok (.iload_n 1, 1) := by decide +kernel
theorem dX10_isReached_52 : decode cX10_isReached 52 = .ok (.iaload, 1) := by decide +kernel
theorem dX10_isReached_53 : decode cX10_isReached 53 = .ok (.ifCond .le 7, 3) := by decide +kernel
theorem dX10_isReached_56 : decode cX10_isReached 56 = .ok (.iconst 1, 1) := by decide +kernel
theorem dX10_isReached_57 : decode cX10_isReached 57 = .ok (.goto 4, 3) := by decide +kernel
theorem dX10_isReached_60 : decode cX10_isReached 60 = .ok (.iconst 0, 1) := by decide +kernel
theorem dX10_isReached_61 : decode cX10_isReached 61 = .ok (.istore_n 3, 1) := by decide +kernel
theorem dX10_isReached_62 : decode cX10_isReached 62 = .ok (.iinc 4 1, 3) := by decide +kernel
theorem dX10_isReached_65 : decode cX10_isReached 65 = .ok (.goto (-48), 3) := by decide +kernel
theorem dX10_isReached_68 : decode cX10_isReached 68 = .ok (.iload_n 3, 1) := by decide +kernel
theorem dX10_isReached_69 : decode cX10_isReached 69 = .ok (.ireturn, 1) := by decide +kernel
theorem dX10_chooses_0 : decode cX10_chooses 0 = .ok (.iload_n 1, 1) := by decide +kernel
theorem dX10_chooses_1 : decode cX10_chooses 1 = .ok (.ifCond .ge 5, 3) := by decide +kernel
theorem dX10_chooses_4 : decode cX10_chooses 4 = .ok (.iconst 1, 1) := by decide +kernel
theorem dX10_chooses_5 : decode cX10_chooses 5 = .ok (.ireturn, 1) := by decide +kernel
theorem dX10_chooses_6 : decode cX10_chooses 6 = .ok (.aload_n 0, 1) := by decide +kernel
theorem dX10_chooses_7 : decode cX10_chooses 7 = .ok (.getfield 106, 3) := by decide +kernel
theorem dX10_chooses_10 : decode cX10_chooses 10 = .ok (.iload_n 1, 1) := by decide +kernel
theorem dX10_chooses_11 : decode cX10_chooses 11 = .ok (.iconst (-1), 1) := by decide +kernel
theorem dX10_chooses_12 : decode cX10_chooses 12 = .ok (.iastore, 1) := by decide +kernel
theorem dX10_chooses_13 : decode cX10_chooses 13 = .ok (.aload_n 0, 1) := by decide +kernel
theorem dX10_chooses_14 : decode cX10_chooses 14 = .ok (.iload_n 1, 1) := by decide +kernel
theorem dX10_chooses_15 : decode cX10_chooses 15 = .ok (.aload_n 2, 1) := by decide +kernel
theorem dX10_chooses_16 : decode cX10_chooses 16 = .ok (.invokevirtual 138, 3) := by decide +kernel
theorem dX10_chooses_19 : decode cX10_chooses 19 = .ok (.ifCond .ne 13, 3) := by decide +kernel
theorem dX10_chooses_22 : decode cX10_chooses 22 = .ok (.aload_n 0, 1) := by decide +kernel
theorem dX10_chooses_23 : decode cX10_chooses 23 = .ok (.iload_n 1, 1) := by decide +kernel
theorem dX10_chooses_24 : decode cX10_chooses 24 = .ok (.iconst 1, 1) := by decide +kernel
theorem dX10_chooses_25 : decode cX10_chooses 25 = .ok (.isub, 1) := by decide +kernel
theorem dX10_chooses_26 : decode cX10_chooses 26 = .ok (.aload_n 2, 1) := by decide +kernel
theorem dX10_chooses_27 : decode cX10_chooses 27 = .ok (.aload_n 3, 1) := by decide +kernel
theorem dX10_chooses_28 : decode cX10_chooses 28 = .ok (.invokevirtual 142, 3) := by decide +kernel
theorem dX10_chooses_31 : decode cX10_chooses 31 = .ok (.ireturn, 1) := by decide +kernel
theorem dX10_chooses_32 : decode cX10_chooses 32 = .ok (.aload_n 0, 1) := by decide +kernel
theorem dX10_chooses_33 : decode cX10_chooses 33 = .ok (.getfield 146, 3) := by decide +kernel
theorem dX10_chooses_36 : decode cX10_chooses 36 = .ok (.iconst 1, 1) := by decide +kernel
theorem dX10_chooses_37 : decode cX10_chooses 37 = .ok (.isub, 1) := by decide +kernel
theorem dX10_chooses_38 : decode cX10_chooses 38 = .ok (.istore 4, 2) := by decide +kernel
theorem dX10_chooses_40 : decode cX10_chooses 40 = .ok (.iload 4, 2) := by decide +kernel
theorem dX10_chooses_42 : decode cX10_chooses 42 = .ok (.ifCond .lt 60, 3) := by decide +kernel
theorem dX10_chooses_45 : decode cX10_chooses 45 = .ok (.aload_n 0, 1) := by decide +kernel
theorem dX10_chooses_46 : decode cX10_chooses 46 = .ok (.getfield 61, 3) := by decide +kernel
theorem dX10_chooses_49 : decode cX10_chooses 49 = .ok (.iload 4, 2) := by decide +kernel
theorem dX10_chooses_51 : decode cX10_chooses 51 = .ok (.iaload, 1) := by decide +kernel
theorem dX10_chooses_52 : decode cX10_chooses 52 = .ok (.iload_n 1, 1) := by decide +kernel
theorem dX10_chooses_53 : decode cX10_chooses 53 = .ok (.if_icmp .ne 43, 3) := by decide +kernel
theorem dX10_chooses_56 : decode cX10_chooses 56 = .ok (.aload_n 0, 1) := by decide +kernel
theorem dX10_chooses_57 : decode cX10_chooses 57 = .ok (.iload 4, 2) := by decide +kernel
theorem dX10_chooses_59 : decode cX10_chooses 59 = .ok (.aload_n 2, 1) := by decide +kernel
theorem dX10_chooses_60 : decode cX10_chooses 60 = .ok (.aload_n 3, 1) := by decide +kernel
theorem dX10_chooses_61 : decode cX10_chooses 61 = .ok (.invokevirtual 149, 3) := by decide +kernel
theorem dX10_chooses_64 : decode cX10_chooses 64 = .ok (.ifCond .eq 32, 3) := by decide +kernel
theorem dX10_chooses_67 : decode cX10_chooses 67 = .ok (.aload_n 0, 1) := by decide +kernel
theorem dX10_chooses_68 : decode cX10_chooses 68 = .ok (.getfield 106, 3) := by decide +kernel
theorem dX10_chooses_71 : decode cX10_chooses 71 = .ok (.iload_n 1, 1) := by decide +kernel
theorem dX10_chooses_72 : decode cX10_chooses 72 = .ok (.iload 4, 2) := by decide +kernel
theorem dX10_chooses_74 : decode cX10_chooses 74 = .ok (.iastore, 1) := by decide +kernel
theorem dX10_chooses_75 : decode cX10_chooses 75 = .ok (.aload_n 0, 1) := by decide +kernel
theorem dX10_chooses_76 : decode cX10_chooses 76 = .ok (.iload_n 1, 1) := by decide +kernel
theorem dX10_chooses_77 : decode cX10_chooses 77 = .ok (.iconst 1, 1) := by decide +kernel
theorem dX10_chooses_78 : decode cX10_chooses 78 = .ok (.isub, 1) := by decide +kernel
theorem dX10_chooses_79 : decode cX10_chooses 79 = .ok (.aload_n 2, 1) := by decide +kernel
theorem dX10_chooses_80 : decode cX10_chooses 80 = .ok (.aload_n 3, 1) := by decide +kernel
theorem dX10_chooses_81 : decode cX10_chooses 81 = .ok (.invokevirtual 142, 3) := by decide +kernel
theorem dX10_chooses_84 : decode cX10_chooses 84 = .ok (.ifCond .eq 5, 3) := by decide +kernel
theorem dX10_chooses_87 : decode cX10_chooses 87 = .ok (.iconst 1, 1) := by decide +kernel
theorem dX10_chooses_88 : decode cX10_chooses 88 = .ok (.ireturn, 1) := by decide +kernel
theorem dX10_chooses_89 : decode cX10_chooses 89 = .ok (.aload_n 0, 1) := by decide +kernel
theorem dX10_chooses_90 : decode cX10_chooses 90 = .ok (.getfield 106, 3) := by decide +kernel
theorem dX10_chooses_93 : decode cX10_chooses 93 = .ok (.iload_n 1, 1) := by decide +kernel
theorem dX10_chooses_94 : decode cX10_chooses 94 = .ok (.iconst (-1), 1) := by decide +kernel
theorem dX10_chooses_95 : decode cX10_chooses 95 = .ok (.iastore, 1) := by decide +kernel
theorem dX10_chooses_96 : decode cX10_chooses 96 = .ok (.iinc 4 (-1), 3) := by decide +kernel
theorem dX10_chooses_99 : decode cX10_chooses 99 = .ok (.goto (-59), 3) := by decide +kernel
theorem dX10_chooses_102 : decode cX10_chooses 102 = .ok (.iconst 0, 1) := by decide +kernel
theorem dX10_chooses_103 : decode cX10_chooses 103 = .ok (.ireturn, 1) := by decide +kernel
theorem dX10_choosesFor_0 : decode cX10_choosesFor 0 = .ok (.iconst 0, 1) := by decide +kernel
theorem dX10_choosesFor_1 : decode cX10_choosesFor 1 = .ok (.istore_n 2, 1) := by decide +kernel
theorem dX10_choosesFor_2 : decode cX10_choosesFor 2 = .ok (.iload_n 2, 1) := by decide +kernel
theorem dX10_choosesFor_3 : decode cX10_choosesFor 3 = .ok (.bipush 6, 2) := by decide +kernel
theorem dX10_choosesFor_5 : decode cX10_choosesFor 5 = .ok (.if_icmp .ge 16, 3) := by decide +kernel
theorem dX10_choosesFor_8 : decode cX10_choosesFor 8 = .ok (.aload_n 0, 1) := by decide +kernel
theorem dX10_choosesFor_9 : decode cX10_choosesFor 9 = .ok (.getfield 106, 3) := by decide +kernel
theorem dX10_choosesFor_12 : decode cX10_choosesFor 12 = .ok (.iload_n 2, 1) := by decide +kernel
theorem dX10_choosesFor_13 : decode cX10_choosesFor 13 = .ok (.iconst (-1), 1) := by decide +kernel
theorem dX10_choosesFor_14 : decode cX10_choosesFor 14 = .ok (.iastore, 1) := by decide +kernel
theorem dX10_choosesFor_15 : decode cX10_choosesFor 15 = .ok (.iinc 2 1, 3) := by decide +kernel
theorem dX10_choosesFor_18 : decode cX10_choosesFor 18 = .ok (.goto (-16), 3) := by decide +kernel
theorem dX10_choosesFor_21 : decode cX10_choosesFor 21 = .ok (.aload_n 0, 1) := by decide +kernel
theorem dX10_choosesFor_22 : decode cX10_choosesFor 22 = .ok (.iconst 5, 1) := by decide +kernel
theorem dX10_choosesFor_23 : decode cX10_choosesFor 23 = .ok (.aload_n 0, 1) := by decide +kernel
theorem dX10_choosesFor_24 : decode cX10_choosesFor 24 = .ok (.getfield 21, 3) := by decide +kernel
theorem dX10_choosesFor_27 : decode cX10_choosesFor 27 = .ok (.iload_n 1, 1) := by decide +kernel
theorem dX10_choosesFor_28 : decode cX10_choosesFor 28 = .ok (.aaload, 1) := by decide +kernel
theorem dX10_choosesFor_29 : decode cX10_choosesFor 29 = .ok (.aload_n 0, 1) := by decide +kernel
theorem dX10_choosesFor_30 : decode cX10_choosesFor 30 = .ok (.getfield 24, 3) := by decide +kernel
theorem dX10_choosesFor_33 : decode cX10_choosesFor 33 = .ok (.iload_n 1, 1) := by decide +kernel
theorem dX10_choosesFor_34 : decode cX10_choosesFor 34 = .ok (.aaload, 1) := by decide +kernel
theorem dX10_choosesFor_35 : decode cX10_choosesFor 35 = .ok (.invokevirtual 142, 3) := by decide +kernel
theorem dX10_choosesFor_38 : decode cX10_choosesFor 38 = .ok (.ireturn, 1) := by decide +kernel
theorem dX10_versionIn_0 : decode cX10_versionIn 0 = .ok (.aload_n 0, 1) := by decide +kernel
theorem dX10_versionIn_1 : decode cX10_versionIn 1 = .ok (.getfield 106, 3) := by decide +kernel
theorem dX10_versionIn_4 : decode cX10_versionIn 4 = .ok (.iload_n 1, 1) := by decide +kernel
theorem dX10_versionIn_5 : decode cX10_versionIn 5 = .ok (.iaload, 1) := by decide +kernel
theorem dX10_versionIn_6 : decode cX10_versionIn 6 = .ok (.iconst (-1), 1) := by decide +kernel
theorem dX10_versionIn_7 : decode cX10_versionIn 7 = .ok (.if_icmp .ne 7, 3) := by decide +kernel
theorem dX10_versionIn_10 : decode cX10_versionIn 10 = .ok (.iconst 0, 1) := by decide +kernel
theorem dX10_versionIn_11 : decode cX10_versionIn 11 = .ok (.goto 14, 3) := by decide +kernel
theorem dX10_versionIn_14 : decode cX10_versionIn 14 = .ok (.aload_n 0, 1) := by decide +kernel
theorem dX10_versionIn_15 : decode cX10_versionIn 15 = .ok (.getfield 64, 3) := by decide +kernel
theorem dX10_versionIn_18 : decode cX10_versionIn 18 = .ok (.aload_n 0, 1) := by decide +kernel
theorem dX10_versionIn_19 : decode cX10_versionIn 19 = .ok (.getfield 106, 3) := by decide +kernel
theorem dX10_versionIn_22 : decode cX10_versionIn 22 = .ok (.iload_n 1, 1) := by decide +kernel
theorem dX10_versionIn_23 : decode cX10_versionIn 23 = .ok (.iaload, 1) := by decide +kernel
theorem dX10_versionIn_24 : decode cX10_versionIn 24 = .ok (.iaload, 1) := by decide +kernel
theorem dX10_versionIn_25 : decode cX10_versionIn 25 = .ok (.ireturn, 1) := by decide +kernel
theorem dX10_chosen_0 : decode cX10_chosen 0 = .ok (.aload_n 0, 1) := by decide +kernel
theorem dX10_chosen_1 : decode cX10_chosen 1 = .ok (.aload_n 0, 1) := by decide +kernel
theorem dX10_chosen_2 : decode cX10_chosen 2 = .ok (.iload_n 1, 1) := by decide +kernel
theorem dX10_chosen_3 : decode cX10_chosen 3 = .ok (.invokevirtual 119, 3) := by decide +kernel
theorem dX10_chosen_6 : decode cX10_chosen 6 = .ok (.ifCond .eq 11, 3) := by decide +kernel
theorem dX10_chosen_9 : decode cX10_chosen 9 = .ok (.aload_n 0, 1) := by decide +kernel
theorem dX10_chosen_10 : decode cX10_chosen 10 = .ok (.iload_n 2, 1) := by decide +kernel
theorem dX10_chosen_11 : decode cX10_chosen 11 = .ok (.invokevirtual 119, 3) := by decide +kernel
theorem dX10_chosen_14 : decode cX10_chosen 14 = .ok (.ifCond .ne 7, 3) := by decide +kernel
theorem dX10_chosen_17 : decode cX10_chosen 17 = .ok (.iconst 1, 1) := by decide +kernel
theorem dX10_chosen_18 : decode cX10_chosen 18 = .ok (.goto 16, 3) := by decide +kernel
theorem dX10_chosen_21 : decode cX10_chosen 21 = .ok (.aload_n 0, 1) := by decide +kernel
theorem dX10_chosen_22 : decode cX10_chosen 22 = .ok (.iload_n 1, 1) := by decide +kernel
theorem dX10_chosen_23 : decode cX10_chosen 23 = .ok (.invokevirtual 152, 3) := by decide +kernel
theorem dX10_chosen_26 : decode cX10_chosen 26 = .ok (.ifCond .ne 7, 3) := by decide +kernel
theorem dX10_chosen_29 : decode cX10_chosen 29 = .ok (.iconst 2, 1) := by decide +kernel
theorem dX10_chosen_30 : decode cX10_chosen 30 = .ok (.goto 4, 3) := by decide +kernel
theorem dX10_chosen_33 : decode cX10_chosen 33 = .ok (.iconst 0, 1) := by decide +kernel
theorem dX10_chosen_34 : decode cX10_chosen 34 = .ok (.putfield 109, 3) := by decide +kernel
theorem dX10_chosen_37 : decode cX10_chosen 37 = .ok (.aload_n 0, 1) := by decide +kernel
theorem dX10_chosen_38 : decode cX10_chosen 38 = .ok (.getfield 109, 3) := by decide +kernel
theorem dX10_chosen_41 : decode cX10_chosen 41 = .ok (.ifCond .le 7, 3) := by decide +kernel
theorem dX10_chosen_44 : decode cX10_chosen 44 = .ok (.iconst 0, 1) := by decide +kernel
theorem dX10_chosen_45 : decode cX10_chosen 45 = .ok (.goto 8, 3) := by decide +kernel
theorem dX10_chosen_48 : decode cX10_chosen 48 = .ok (.aload_n 0, 1) := by decide +kernel
theorem dX10_chosen_49 : decode cX10_chosen 49 = .ok (.iload_n 2, 1) := by decide +kernel
theorem dX10_chosen_50 : decode cX10_chosen 50 = .ok (.invokevirtual 155, 3) := by decide +kernel
theorem dX10_chosen_53 : decode cX10_chosen 53 = .ok (.ireturn, 1) := by decide +kernel
theorem dX10_chosenByAll_0 : decode cX10_chosenByAll 0 = .ok (.aload_n 0, 1) := by decide +kernel
theorem dX10_chosenByAll_1 : decode cX10_chosenByAll 1 = .ok (.iload_n 1, 1) := by decide +kernel
theorem dX10_chosenByAll_2 : decode cX10_chosenByAll 2 = .ok (.iload_n 2, 1) := by decide +kernel
theorem dX10_chosenByAll_3 : decode cX10_chosenByAll 3 = .ok (.invokevirtual 158, 3) := by decide +kernel
theorem dX10_chosenByAll_6 : decode cX10_chosenByAll 6 = .ok (.ireturn, 1) := by decide +kernel
theorem dX10_isOther_0 : decode cX10_isOther 0 = .ok (.aload_n 0, 1) := by decide +kernel
theorem dX10_isOther_1 : decode cX10_isOther 1 = .ok (.getfield 27, 3) := by decide +kernel
theorem dX10_isOther_4 : decode cX10_isOther 4 = .ok (.iload_n 1, 1) := by decide +kernel
theorem dX10_isOther_5 : decode cX10_isOther 5 = .ok (.baload, 1) := by decide +kernel
theorem dX10_isOther_6 : decode cX10_isOther 6 = .ok (.ifCond .eq 47, 3) := by decide +kernel
theorem dX10_isOther_9 : decode cX10_isOther 9 = .ok (.aload_n 0, 1) := by decide +kernel
theorem dX10_isOther_10 : decode cX10_isOther 10 = .ok (.getfield 13, 3) := by decide +kernel
theorem dX10_isOther_13 : decode cX10_isOther 13 = .ok (.iload_n 1, 1) := by decide +kernel
theorem dX10_isOther_14 : decode cX10_isOther 14 = .ok (.iaload, 1) := by decide +kernel
theorem dX10_isOther_15 : decode cX10_isOther 15 = .ok (.aload_n 0, 1) := by decide +kernel
theorem dX10_isOther_16 : decode cX10_isOther 16 = .ok (.getfield 31, 3) := by decide +kernel
theorem dX10_isOther_19 : decode cX10_isOther 19 = .ok (.iload_n 1, 1) := by decide +kernel
theorem dX10_isOther_20 : decode cX10_isOther 20 = .ok (.iaload, 1) := by decide +kernel
theorem dX10_isOther_21 : decode cX10_isOther 21 = .ok (.if_icmp .ne 32, 3) := by decide +kernel
theorem dX10_isOther_24 : decode cX10_isOther 24 = .ok (.aload_n 0, 1) := by decide +kernel
theorem dX10_isOther_25 : decode cX10_isOther 25 = .ok (.getfield 16, 3) := by decide +kernel
theorem dX10_isOther_28 : decode cX10_isOther 28 = .ok (.iload_n 1, 1) := by decide +kernel
theorem dX10_isOther_29 : decode cX10_isOther 29 = .ok (.iaload, 1) := by decide +kernel
theorem dX10_isOther_30 : decode cX10_isOther 30 = .ok (.aload_n 0, 1) := by decide +kernel
theorem dX10_isOther_31 : decode cX10_isOther 31 = .ok (.getfield 34, 3) := by decide +kernel
theorem dX10_isOther_34 : decode cX10_isOther 34 = .ok (.iload_n 1, 1) := by decide +kernel
theorem dX10_isOther_35 : decode cX10_isOther 35 = .ok (.iaload, 1) := by decide +kernel
theorem dX10_isOther_36 : decode cX10_isOther 36 = .ok (.if_icmp .ne 17, 3) := by decide +kernel
theorem dX10_isOther_39 : decode cX10_isOther 39 = .ok (.aload_n 0, 1) := by decide +kernel
theorem dX10_isOther_40 : decode cX10_isOther 40 = .ok (.iload_n 1, 1) := by decide +kernel
theorem dX10_isOther_41 : decode cX10_isOther 41 = .ok (.invokevirtual 130, 3) := by decide +kernel
theorem dX10_isOther_44 : decode cX10_isOther 44 = .ok (.aload_n 0, 1) := by decide +kernel
theorem dX10_isOther_45 : decode cX10_isOther 45 = .ok (.getfield 37, 3) := by decide +kernel
theorem dX10_isOther_48 : decode cX10_isOther 48 = .ok (.iload_n 1, 1) := by decide +kernel
theorem dX10_isOther_49 : decode cX10_isOther 49 = .ok (.iaload, 1) := by decide +kernel
theorem dX10_isOther_50 : decode cX10_isOther 50 = .ok (.if_icmp .eq 7, 3) := by decide +kernel
theorem dX10_isOther_53 : decode cX10_isOther 53 = .ok (.iconst 1, 1) := by decide +kernel
theorem dX10_isOther_54 : decode cX10_isOther 54 = .ok (.goto 4, 3) := by decide +kernel
theorem dX10_isOther_57 : decode cX10_isOther 57 = .ok (.iconst 0, 1) := by decide +kernel
theorem dX10_isOther_58 : decode cX10_isOther 58 = .ok (.ireturn, 1) := by decide +kernel
theorem dX10_isNeeded_0 : decode cX10_isNeeded 0 = .ok (.aload_n 0, 1) := by decide +kernel
theorem dX10_isNeeded_1 : decode cX10_isNeeded 1 = .ok (.iload_n 1, 1) := by decide +kernel
theorem dX10_isNeeded_2 : decode cX10_isNeeded 2 = .ok (.invokevirtual 162, 3) := by decide +kernel
theorem dX10_isNeeded_5 : decode cX10_isNeeded 5 = .ok (.istore_n 2, 1) := by decide +kernel
theorem dX10_isNeeded_6 : decode cX10_isNeeded 6 = .ok (.iconst 0, 1) := by decide +kernel
theorem dX10_isNeeded_7 : decode cX10_isNeeded 7 = .ok (.istore_n 3, 1) := by decide +kernel
theorem dX10_isNeeded_8 : decode cX10_isNeeded 8 = .ok (.iload_n 3, 1) := by decide +kernel
theorem dX10_isNeeded_9 : decode cX10_isNeeded 9 = .ok (.bipush 6, 2) := by decide +kernel
theorem dX10_isNeeded_11 : decode cX10_isNeeded 11 = .ok (.if_icmp .ge 52, 3) := by decide +kernel
theorem dX10_isNeeded_14 : decode cX10_isNeeded 14 = .ok (.iload_n 2, 1) := by decide +kernel
theorem dX10_isNeeded_15 : decode cX10_isNeeded 15 = .ok (.ifCond .ne 48, 3) := by decide +kernel
theorem dX10_isNeeded_18 : decode cX10_isNeeded 18 = .ok (.aload_n 0, 1) := by decide +kernel
theorem dX10_isNeeded_19 : decode cX10_isNeeded 19 = .ok (.getfield 21, 3) := by decide +kernel
theorem dX10_isNeeded_22 : decode cX10_isNeeded 22 = .ok (.iload_n 1, 1) := by decide +kernel
theorem dX10_isNeeded_23 : decode cX10_isNeeded 23 = .ok (.aaload, 1) := by decide +kernel
theorem dX10_isNeeded_24 : decode cX10_isNeeded 24 = .ok (.iload_n 3, 1) := by decide +kernel
theorem dX10_isNeeded_25 : decode cX10_isNeeded 25 = .ok (.iaload, 1) := by decide +kernel
theorem dX10_isNeeded_26 : decode cX10_isNeeded 26 = .ok (.ifCond .le 29, 3) := by decide +kernel
theorem dX10_isNeeded_29 : decode cX10_isNeeded 29 = .ok (.aload_n 0, 1) := by decide +kernel
theorem dX10_isNeeded_30 : decode cX10_isNeeded 30 = .ok (.getfield 67, 3) := by decide +kernel
theorem dX10_isNeeded_33 : decode cX10_isNeeded 33 = .ok (.aload_n 0, 1) := by decide +kernel
theorem dX10_isNeeded_34 : decode cX10_isNeeded 34 = .ok (.getfield 106, 3) := by decide +kernel
theorem dX10_isNeeded_37 : decode cX10_isNeeded 37 = .ok (.iload_n 3, 1) := by decide +kernel
theorem dX10_isNeeded_38 : decode cX10_isNeeded 38 = .ok (.iaload, 1) := by decide +kernel
theorem dX10_isNeeded_39 : decode cX10_isNeeded 39 = .ok (.iaload, 1) := by decide +kernel
theorem dX10_isNeeded_40 : decode cX10_isNeeded 40 = .ok (.aload_n 0, 1) := by decide +kernel
theorem dX10_isNeeded_41 : decode cX10_isNeeded 41 = .ok (.getfield 40, 3) := by decide +kernel
theorem dX10_isNeeded_44 : decode cX10_isNeeded 44 = .ok (.iload_n 1, 1) := by decide +kernel
theorem dX10_isNeeded_45 : decode cX10_isNeeded 45 = .ok (.aaload, 1) := by decide +kernel
theorem dX10_isNeeded_46 : decode cX10_isNeeded 46 = .ok (.iload_n 3, 1) := by decide +kernel
theorem dX10_isNeeded_47 : decode cX10_isNeeded 47 = .ok (.iaload, 1) := by decide +kernel
theorem dX10_isNeeded_48 : decode cX10_isNeeded 48 = .ok (.if_icmp .eq 7, 3) := by decide +kernel
theorem dX10_isNeeded_51 : decode cX10_isNeeded 51 = .ok (.iconst 1, 1) := by decide +kernel
theorem dX10_isNeeded_52 : decode cX10_isNeeded 52 = .ok (.goto 4, 3) := by decide +kernel
theorem dX10_isNeeded_55 : decode cX10_isNeeded 55 = .ok (.iconst 0, 1) := by decide +kernel
theorem dX10_isNeeded_56 : decode cX10_isNeeded 56 = .ok (.istore_n 2, 1) := by decide +kernel
theorem dX10_isNeeded_57 : decode cX10_isNeeded 57 = .ok (.iinc 3 1, 3) := by decide +kernel
theorem dX10_isNeeded_60 : decode cX10_isNeeded 60 = .ok (.goto (-52), 3) := by decide +kernel
theorem dX10_isNeeded_63 : decode cX10_isNeeded 63 = .ok (.iload_n 2, 1) := by decide +kernel
theorem dX10_isNeeded_64 : decode cX10_isNeeded 64 = .ok (.ireturn, 1) := by decide +kernel
theorem dX10_compile_0 : decode cX10_compile 0 = .ok (.aload_n 0, 1) := by decide +kernel
theorem dX10_compile_1 : decode cX10_compile 1 = .ok (.iload_n 1, 1) := by decide +kernel
theorem dX10_compile_2 : decode cX10_compile 2 = .ok (.invokevirtual 123, 3) := by decide +kernel
theorem dX10_compile_5 : decode cX10_compile 5 = .ok (.ifCond .eq 5, 3) := by decide +kernel
theorem dX10_compile_8 : decode cX10_compile 8 = .ok (.iconst 0, 1) := by decide +kernel
theorem dX10_compile_9 : decode cX10_compile 9 = .ok (.ireturn, 1) := by decide +kernel
theorem dX10_compile_10 : decode cX10_compile 10 = .ok (.aload_n 0, 1) := by decide +kernel
theorem dX10_compile_11 : decode cX10_compile 11 = .ok (.iload_n 1, 1) := by decide +kernel
theorem dX10_compile_12 : decode cX10_compile 12 = .ok (.invokevirtual 152, 3) := by decide +kernel
theorem dX10_compile_15 : decode cX10_compile 15 = .ok (.ifCond .ne 10, 3) := by decide +kernel
theorem dX10_compile_18 : decode cX10_compile 18 = .ok (.aload_n 0, 1) := by decide +kernel
theorem dX10_compile_19 : decode cX10_compile 19 = .ok (.iconst 2, 1) := by decide +kernel
theorem dX10_compile_20 : decode cX10_compile 20 = .ok (.putfield 109, 3) := by decide +kernel
theorem dX10_compile_23 : decode cX10_compile 23 = .ok (.iconst 0, 1) := by decide +kernel
theorem dX10_compile_24 : decode cX10_compile 24 = .ok (.ireturn, 1) := by decide +kernel
theorem dX10_compile_25 : decode cX10_compile 25 = .ok (.aload_n 0, 1) := by decide +kernel
theorem dX10_compile_26 : decode cX10_compile 26 = .ok (.iload_n 1, 1) := by decide +kernel
theorem dX10_compile_27 : decode cX10_compile 27 = .ok (.invokevirtual 165, 3) := by decide +kernel
theorem dX10_compile_30 : decode cX10_compile 30 = .ok (.ifCond .ne 5, 3) := by decide +kernel
theorem dX10_compile_33 : decode cX10_compile 33 = .ok (.iconst 0, 1) := by decide +kernel
theorem dX10_compile_34 : decode cX10_compile 34 = .ok (.ireturn, 1) := by decide +kernel
theorem dX10_compile_35 : decode cX10_compile 35 = .ok (.aload_n 0, 1) := by decide +kernel
theorem dX10_compile_36 : decode cX10_compile 36 = .ok (.getfield 27, 3) := by decide +kernel
theorem dX10_compile_39 : decode cX10_compile 39 = .ok (.iload_n 1, 1) := by decide +kernel
theorem dX10_compile_40 : decode cX10_compile 40 = .ok (.iconst 1, 1) := by decide +kernel
theorem dX10_compile_41 : decode cX10_compile 41 = .ok (.bastore, 1) := by decide +kernel
theorem dX10_compile_42 : decode cX10_compile 42 = .ok (.aload_n 0, 1) := by decide +kernel
theorem dX10_compile_43 : decode cX10_compile 43 = .ok (.getfield 31, 3) := by decide +kernel
theorem dX10_compile_46 : decode cX10_compile 46 = .ok (.iload_n 1, 1) := by decide +kernel
theorem dX10_compile_47 : decode cX10_compile 47 = .ok (.aload_n 0, 1) := by decide +kernel
theorem dX10_compile_48 : decode cX10_compile 48 = .ok (.getfield 13, 3) := by decide +kernel
theorem dX10_compile_51 : decode cX10_compile 51 = .ok (.iload_n 1, 1) := by decide +kernel
theorem dX10_compile_52 : decode cX10_compile 52 = .ok (.iaload, 1) := by decide +kernel
theorem dX10_compile_53 : decode cX10_compile 53 = .ok (.iastore, 1) := by decide +kernel
theorem dX10_compile_54 : decode cX10_compile 54 = .ok (.aload_n 0, 1) := by decide +kernel
theorem dX10_compile_55 : decode cX10_compile 55 = .ok (.getfield 34, 3) := by decide +kernel
theorem dX10_compile_58 : decode cX10_compile 58 = .ok (.iload_n 1, 1) := by decide +kernel
theorem dX10_compile_59 : decode cX10_compile 59 = .ok (.aload_n 0, 1) := by decide +kernel
theorem dX10_compile_60 : decode cX10_compile 60 = .ok (.getfield 16, 3) := by decide +kernel
theorem dX10_compile_63 : decode cX10_compile 63 = .ok (.iload_n 1, 1) := by decide +kernel
theorem dX10_compile_64 : decode cX10_compile 64 = .ok (.iaload, 1) := by decide +kernel
theorem dX10_compile_65 : decode cX10_compile 65 = .ok (.iastore, 1) := by decide +kernel
theorem dX10_compile_66 : decode cX10_compile 66 = .ok (.aload_n 0, 1) := by decide +kernel
theorem dX10_compile_67 : decode cX10_compile 67 = .ok (.getfield 37, 3) := by decide +kernel
theorem dX10_compile_70 : decode cX10_compile 70 = .ok (.iload_n 1, 1) := by decide +kernel
theorem dX10_compile_71 : decode cX10_compile 71 = .ok (.aload_n 0, 1) := by decide +kernel
theorem dX10_compile_72 : decode cX10_compile 72 = .ok (.iload_n 1, 1) := by decide +kernel
theorem dX10_compile_73 : decode cX10_compile 73 = .ok (.invokevirtual 130, 3) := by decide +kernel
theorem dX10_compile_76 : decode cX10_compile 76 = .ok (.iastore, 1) := by decide +kernel
theorem dX10_compile_77 : decode cX10_compile 77 = .ok (.iconst 0, 1) := by decide +kernel
theorem dX10_compile_78 : decode cX10_compile 78 = .ok (.istore_n 2, 1) := by decide +kernel
theorem dX10_compile_79 : decode cX10_compile 79 = .ok (.iload_n 2, 1) := by decide +kernel
theorem dX10_compile_80 : decode cX10_compile 80 = .ok (.bipush 6, 2) := by decide +kernel
theorem dX10_compile_82 : decode cX10_compile 82 = .ok (.if_icmp .ge 43, 3) := by decide +kernel
theorem dX10_compile_85 : decode cX10_compile 85 = .ok (.aload_n 0, 1) := by decide +kernel
theorem dX10_compile_86 : decode cX10_compile 86 = .ok (.getfield 40, 3) := by decide +kernel
theorem dX10_compile_89 : decode cX10_compile 89 = .ok (.iload_n 1, 1) := by decide +kernel
theorem dX10_compile_90 : decode cX10_compile 90 = .ok (.aaload, 1) := by decide +kernel
theorem dX10_compile_91 : decode cX10_compile 91 = .ok (.iload_n 2, 1) := by decide +kernel
theorem dX10_compile_92 : decode cX10_compile 92 = .ok (.aload_n 0, 1) := by decide +kernel
theorem dX10_compile_93 : decode cX10_compile 93 = .ok (.getfield 21, 3) := by decide +kernel
theorem dX10_compile_96 : decode cX10_compile 96 = .ok (.iload_n 1, 1) := by decide +kernel
theorem dX10_compile_97 : decode cX10_compile 97 = .ok (.aaload, 1) := by decide +kernel
theorem dX10_compile_98 : decode cX10_compile 98 = .ok (.iload_n 2, 1) := by decide +kernel
theorem dX10_compile_99 : decode cX10_compile 99 = .ok (.iaload, 1) := by decide +kernel
theorem dX10_compile_100 : decode cX10_compile 100 = .ok (.ifCond .le 17, 3) := by decide +kernel
theorem dX10_compile_103 : decode cX10_compile 103 = .ok (.aload_n 0, 1) := by decide +kernel
theorem dX10_compile_104 : decode cX10_compile 104 = .ok (.getfield 67, 3) := by decide +kernel
theorem dX10_compile_107 : decode cX10_compile 107 = .ok (.aload_n 0, 1) := by decide +kernel
theorem dX10_compile_108 : decode cX10_compile 108 = .ok (.getfield 106, 3) := by decide +kernel
theorem dX10_compile_111 : decode cX10_compile 111 = .ok (.iload_n 2, 1) := by decide +kernel
theorem dX10_compile_112 : decode cX10_compile 112 = .ok (.iaload, 1) := by decide +kernel
theorem dX10_compile_113 : decode cX10_compile 113 = .ok (.iaload, 1) := by decide +kernel
theorem dX10_compile_114 : decode cX10_compile 114 = .ok (.goto 4, 3) := by decide +kernel
theorem dX10_compile_117 : decode cX10_compile 117 = .ok (.iconst 0, 1) := by decide +kernel
theorem dX10_compile_118 : decode cX10_compile 118 = .ok (.iastore, 1) := by decide +kernel
theorem dX10_compile_119 : decode cX10_compile 119 = .ok (.iinc 2 1, 3) := by decide +kernel
theorem dX10_compile_122 : decode cX10_compile 122 = .ok (.goto (-43), 3) := by decide +kernel
theorem dX10_compile_125 : decode cX10_compile 125 = .ok (.aload_n 0, 1) := by decide +kernel
theorem dX10_compile_126 : decode cX10_compile 126 = .ok (.dup, 1) := by decide +kernel
theorem dX10_compile_127 : decode cX10_compile 127 = .ok (.getfield 168, 3) := by decide +kernel
theorem dX10_compile_130 : decode cX10_compile 130 = .ok (.iconst 1, 1) := by decide +kernel
theorem dX10_compile_131 : decode cX10_compile 131 = .ok (.iadd, 1) := by decide +kernel
theorem dX10_compile_132 : decode cX10_compile 132 = .ok (.putfield 168, 3) := by decide +kernel
theorem dX10_compile_135 : decode cX10_compile 135 = .ok (.iconst 1, 1) := by decide +kernel
theorem dX10_compile_136 : decode cX10_compile 136 = .ok (.ireturn, 1) := by decide +kernel
theorem dX10_compiled_0 : decode cX10_compiled 0 = .ok (.aload_n 0, 1) := by decide +kernel
theorem dX10_compiled_1 : decode cX10_compiled 1 = .ok (.iconst 0, 1) := by decide +kernel
theorem dX10_compiled_2 : decode cX10_compiled 2 = .ok (.putfield 109, 3) := by decide +kernel
theorem dX10_compiled_5 : decode cX10_compiled 5 = .ok (.aload_n 0, 1) := by decide +kernel
theorem dX10_compiled_6 : decode cX10_compiled 6 = .ok (.getfield 168, 3) := by decide +kernel
theorem dX10_compiled_9 : decode cX10_compiled 9 = .ok (.ireturn, 1) := by decide +kernel
theorem dX10_addTest_0 : decode cX10_addTest 0 = .ok (.aload_n 0, 1) := by decide +kernel
theorem dX10_addTest_1 : decode cX10_addTest 1 = .ok (.iload_n 1, 1) := by decide +kernel
theorem dX10_addTest_2 : decode cX10_addTest 2 = .ok (.invokevirtual 123, 3) := by decide +kernel
theorem dX10_addTest_5 : decode cX10_addTest 5 = .ok (.ifCond .eq 5, 3) := by decide +kernel
theorem dX10_addTest_8 : decode cX10_addTest 8 = .ok (.iconst 0, 1) := by decide +kernel
theorem dX10_addTest_9 : decode cX10_addTest 9 = .ok (.ireturn, 1) := by decide +kernel
theorem dX10_addTest_10 : decode cX10_addTest 10 = .ok (.aload_n 0, 1) := by decide +kernel
theorem dX10_addTest_11 : decode cX10_addTest 11 = .ok (.iload_n 2, 1) := by decide +kernel
theorem dX10_addTest_12 : decode cX10_addTest 12 = .ok (.iconst 1, 1) := by decide +kernel
theorem dX10_addTest_13 : decode cX10_addTest 13 = .ok (.bipush 60, 2) := by decide +kernel
theorem dX10_addTest_15 : decode cX10_addTest 15 = .ok (.invokestatic 115, 3) := by decide +kernel
theorem dX10_addTest_18 : decode cX10_addTest 18 = .ok (.ifCond .ne 7, 3) := by decide +kernel
theorem dX10_addTest_21 : decode cX10_addTest 21 = .ok (.iconst 2, 1) := by decide +kernel
theorem dX10_addTest_22 : decode cX10_addTest 22 = .ok (.goto 17, 3) := by decide +kernel
theorem dX10_addTest_25 : decode cX10_addTest 25 = .ok (.aload_n 0, 1) := by decide +kernel
theorem dX10_addTest_26 : decode cX10_addTest 26 = .ok (.getfield 171, 3) := by decide +kernel
theorem dX10_addTest_29 : decode cX10_addTest 29 = .ok (.bipush 8, 2) := by decide +kernel
theorem dX10_addTest_31 : decode cX10_addTest 31 = .ok (.if_icmp .ne 7, 3) := by decide +kernel
theorem dX10_addTest_34 : decode cX10_addTest 34 = .ok (.iconst 3, 1) := by decide +kernel
theorem dX10_addTest_35 : decode cX10_addTest 35 = .ok (.goto 4, 3) := by decide +kernel
theorem dX10_addTest_38 : decode cX10_addTest 38 = .ok (.iconst 0, 1) := by decide +kernel
theorem dX10_addTest_39 : decode cX10_addTest 39 = .ok (.putfield 109, 3) := by decide +kernel
theorem dX10_addTest_42 : decode cX10_addTest 42 = .ok (.aload_n 0, 1) := by decide +kernel
theorem dX10_addTest_43 : decode cX10_addTest 43 = .ok (.getfield 109, 3) := by decide +kernel
theorem dX10_addTest_46 : decode cX10_addTest 46 = .ok (.ifCond .le 5, 3) := by decide +kernel
theorem dX10_addTest_49 : decode cX10_addTest 49 = .ok (.iconst 0, 1) := by decide +kernel
theorem dX10_addTest_50 : decode cX10_addTest 50 = .ok (.ireturn, 1) := by decide +kernel
theorem dX10_addTest_51 : decode cX10_addTest 51 = .ok (.aload_n 0, 1) := by decide +kernel
theorem dX10_addTest_52 : decode cX10_addTest 52 = .ok (.getfield 82, 3) := by decide +kernel
theorem dX10_addTest_55 : decode cX10_addTest 55 = .ok (.aload_n 0, 1) := by decide +kernel
theorem dX10_addTest_56 : decode cX10_addTest 56 = .ok (.getfield 171, 3) := by decide +kernel
theorem dX10_addTest_59 : decode cX10_addTest 59 = .ok (.iload_n 1, 1) := by decide +kernel
theorem dX10_addTest_60 : decode cX10_addTest 60 = .ok (.iastore, 1) := by decide +kernel
theorem dX10_addTest_61 : decode cX10_addTest 61 = .ok (.aload_n 0, 1) := by decide +kernel
theorem dX10_addTest_62 : decode cX10_addTest 62 = .ok (.getfield 85, 3) := by decide +kernel
theorem dX10_addTest_65 : decode cX10_addTest 65 = .ok (.aload_n 0, 1) := by decide +kernel
theorem dX10_addTest_66 : decode cX10_addTest 66 = .ok (.getfield 171, 3) := by decide +kernel
theorem dX10_addTest_69 : decode cX10_addTest 69 = .ok (.iload_n 2, 1) := by decide +kernel
theorem dX10_addTest_70 : decode cX10_addTest 70 = .ok (.iastore, 1) := by decide +kernel
theorem dX10_addTest_71 : decode cX10_addTest 71 = .ok (.aload_n 0, 1) := by decide +kernel
theorem dX10_addTest_72 : decode cX10_addTest 72 = .ok (.dup, 1) := by decide +kernel
theorem dX10_addTest_73 : decode cX10_addTest 73 = .ok (.getfield 171, 3) := by decide +kernel
theorem dX10_addTest_76 : decode cX10_addTest 76 = .ok (.iconst 1, 1) := by decide +kernel
theorem dX10_addTest_77 : decode cX10_addTest 77 = .ok (.iadd, 1) := by decide +kernel
theorem dX10_addTest_78 : decode cX10_addTest 78 = .ok (.putfield 171, 3) := by decide +kernel
theorem dX10_addTest_81 : decode cX10_addTest 81 = .ok (.aload_n 0, 1) := by decide +kernel
theorem dX10_addTest_82 : decode cX10_addTest 82 = .ok (.getfield 171, 3) := by decide +kernel
theorem dX10_addTest_85 : decode cX10_addTest 85 = .ok (.iconst 1, 1) := by decide +kernel
theorem dX10_addTest_86 : decode cX10_addTest 86 = .ok (.isub, 1) := by decide +kernel
theorem dX10_addTest_87 : decode cX10_addTest 87 = .ok (.ireturn, 1) := by decide +kernel
theorem dX10_noTest_0 : decode cX10_noTest 0 = .ok (.aload_n 0, 1) := by decide +kernel
theorem dX10_noTest_1 : decode cX10_noTest 1 = .ok (.iload_n 1, 1) := by decide +kernel
theorem dX10_noTest_2 : decode cX10_noTest 2 = .ok (.iconst 0, 1) := by decide +kernel
theorem dX10_noTest_3 : decode cX10_noTest 3 = .ok (.aload_n 0, 1) := by decide +kernel
theorem dX10_noTest_4 : decode cX10_noTest 4 = .ok (.getfield 171, 3) := by decide +kernel
theorem dX10_noTest_7 : decode cX10_noTest 7 = .ok (.iconst 1, 1) := by decide +kernel
theorem dX10_noTest_8 : decode cX10_noTest 8 = .ok (.isub, 1) := by decide +kernel
theorem dX10_noTest_9 : decode cX10_noTest 9 = .ok (.invokestatic 115, 3) := by decide +kernel
theorem dX10_noTest_12 : decode cX10_noTest 12 = .ok (.ifCond .eq 7, 3) := by decide +kernel
theorem dX10_noTest_15 : decode cX10_noTest 15 = .ok (.iconst 0, 1) := by decide +kernel
theorem dX10_noTest_16 : decode cX10_noTest 16 = .ok (.goto 4, 3) := by decide +kernel
theorem dX10_noTest_19 : decode cX10_noTest 19 = .ok (.iconst 1, 1) := by decide +kernel
theorem dX10_noTest_20 : decode cX10_noTest 20 = .ok (.putfield 109, 3) := by decide +kernel
theorem dX10_noTest_23 : decode cX10_noTest 23 = .ok (.aload_n 0, 1) := by decide +kernel
theorem dX10_noTest_24 : decode cX10_noTest 24 = .ok (.getfield 109, 3) := by decide +kernel
theorem dX10_noTest_27 : decode cX10_noTest 27 = .ok (.ifCond .le 7, 3) := by decide +kernel
theorem dX10_noTest_30 : decode cX10_noTest 30 = .ok (.iconst 1, 1) := by decide +kernel
theorem dX10_noTest_31 : decode cX10_noTest 31 = .ok (.goto 4, 3) := by decide +kernel
theorem dX10_noTest_34 : decode cX10_noTest 34 = .ok (.iconst 0, 1) := by decide +kernel
theorem dX10_noTest_35 : decode cX10_noTest 35 = .ok (.ireturn, 1) := by decide +kernel
theorem dX10_setFailing_0 : decode cX10_setFailing 0 = .ok (.aload_n 0, 1) := by decide +kernel
theorem dX10_setFailing_1 : decode cX10_setFailing 1 = .ok (.iload_n 1, 1) := by decide +kernel
theorem dX10_setFailing_2 : decode cX10_setFailing 2 = .ok (.invokevirtual 174, 3) := by decide +kernel
theorem dX10_setFailing_5 : decode cX10_setFailing 5 = .ok (.ifCond .eq 5, 3) := by decide +kernel
theorem dX10_setFailing_8 : decode cX10_setFailing 8 = .ok (.iconst 0, 1) := by decide +kernel
theorem dX10_setFailing_9 : decode cX10_setFailing 9 = .ok (.ireturn, 1) := by decide +kernel
theorem dX10_setFailing_10 : decode cX10_setFailing 10 = .ok (.aload_n 0, 1) := by decide +kernel
theorem dX10_setFailing_11 : decode cX10_setFailing 11 = .ok (.getfield 88, 3) := by decide +kernel
theorem dX10_setFailing_14 : decode cX10_setFailing 14 = .ok (.iload_n 1, 1) := by decide +kernel
theorem dX10_setFailing_15 : decode cX10_setFailing 15 = .ok (.baload, 1) := by decide +kernel
theorem dX10_setFailing_16 : decode cX10_setFailing 16 = .ok (.istore_n 3, 1) := by decide +kernel
theorem dX10_setFailing_17 : decode cX10_setFailing 17 = .ok (.aload_n 0, 1) := by decide +kernel
theorem dX10_setFailing_18 : decode cX10_setFailing 18 = .ok (.getfield 88, 3) := by decide +kernel
theorem dX10_setFailing_21 : decode cX10_setFailing 21 = .ok (.iload_n 1, 1) := by decide +kernel
theorem dX10_setFailing_22 : decode cX10_setFailing 22 = .ok (.iload_n 2, 1) := by decide +kernel
theorem dX10_setFailing_23 : decode cX10_setFailing 23 = .ok (.bastore, 1) := by decide +kernel
theorem dX10_setFailing_24 : decode cX10_setFailing 24 = .ok (.iload_n 3, 1) := by decide +kernel
theorem dX10_setFailing_25 : decode cX10_setFailing 25 = .ok (.ireturn, 1) := by decide +kernel
theorem dX10_setMachines_0 : decode cX10_setMachines 0 = .ok (.aload_n 0, 1) := by decide +kernel
theorem dX10_setMachines_1 : decode cX10_setMachines 1 = .ok (.iload_n 1, 1) := by decide +kernel
theorem dX10_setMachines_2 : decode cX10_setMachines 2 = .ok (.iconst 1, 1) := by decide +kernel
theorem dX10_setMachines_3 : decode cX10_setMachines 3 = .ok (.iconst 4, 1) := by decide +kernel
theorem dX10_setMachines_4 : decode cX10_setMachines 4 = .ok (.invokestatic 115, 3) := by decide +kernel
theorem dX10_setMachines_7 : decode cX10_setMachines 7 = .ok (.ifCond .eq 7, 3) := by decide +kernel
theorem dX10_setMachines_10 : decode cX10_setMachines 10 = .ok (.iconst 0, 1) := by decide +kernel
theorem dX10_setMachines_11 : decode cX10_setMachines 11 = .ok (.goto 4, 3) := by decide +kernel
theorem dX10_setMachines_14 : decode cX10_setMachines 14 = .ok (.iconst 1, 1) := by decide +kernel
theorem dX10_setMachines_15 : decode cX10_setMachines 15 = .ok (.putfield 109, 3) := by decide +kernel
theorem dX10_setMachines_18 : decode cX10_setMachines 18 = .ok (.aload_n 0, 1) := by decide +kernel
theorem dX10_setMachines_19 : decode cX10_setMachines 19 = .ok (.getfield 109, 3) := by decide +kernel
theorem dX10_setMachines_22 : decode cX10_setMachines 22 = .ok (.ifCond .le 5, 3) := by decide +kernel
theorem dX10_setMachines_25 : decode cX10_setMachines 25 = .ok (.iconst 0, 1) := by decide +kernel
theorem dX10_setMachines_26 : decode cX10_setMachines 26 = .ok (.ireturn, 1) := by decide +kernel
theorem dX10_setMachines_27 : decode cX10_setMachines 27 = .ok (.aload_n 0, 1) := by decide +kernel
theorem dX10_setMachines_28 : decode cX10_setMachines 28 = .ok (.getfield 99, 3) := by decide +kernel
theorem dX10_setMachines_31 : decode cX10_setMachines 31 = .ok (.istore_n 2, 1) := by decide +kernel
theorem dX10_setMachines_32 : decode cX10_setMachines 32 = .ok (.aload_n 0, 1) := by decide +kernel
theorem dX10_setMachines_33 : decode cX10_setMachines 33 = .ok (.iload_n 1, 1) := by decide +kernel
theorem dX10_setMachines_34 : decode cX10_setMachines 34 = .ok (.putfield 99, 3) := by decide +kernel
theorem dX10_setMachines_37 : decode cX10_setMachines 37 = .ok (.iload_n 2, 1) := by decide +kernel
theorem dX10_setMachines_38 : decode cX10_setMachines 38 = .ok (.ireturn, 1) := by decide +kernel
theorem dX10_fund_0 : decode cX10_fund 0 = .ok (.aload_n 0, 1) := by decide +kernel
theorem dX10_fund_1 : decode cX10_fund 1 = .ok (.iload_n 1, 1) := by decide +kernel
theorem dX10_fund_2 : decode cX10_fund 2 = .ok (.iconst 0, 1) := by decide +kernel
theorem dX10_fund_3 : decode cX10_fund 3 = .ok (.iconst 2, 1) := by decide +kernel
theorem dX10_fund_4 : decode cX10_fund 4 = .ok (.invokestatic 115, 3) := by decide +kernel
theorem dX10_fund_7 : decode cX10_fund 7 = .ok (.ifCond .eq 18, 3) := by decide +kernel
theorem dX10_fund_10 : decode cX10_fund 10 = .ok (.iload_n 2, 1) := by decide +kernel
theorem dX10_fund_11 : decode cX10_fund 11 = .ok (.iconst 1, 1) := by decide +kernel
theorem dX10_fund_12 : decode cX10_fund 12 = .ok (.sipush 9999, 3) := by decide +kernel
theorem dX10_fund_15 : decode cX10_fund 15 = .ok (.invokestatic 115, 3) := by decide +kernel
theorem dX10_fund_18 : decode cX10_fund 18 = .ok (.ifCond .eq 7, 3) := by decide +kernel
theorem dX10_fund_21 : decode cX10_fund 21 = .ok (.iconst 0, 1) := by decide +kernel
theorem dX10_fund_22 : decode cX10_fund 22 = .ok (.goto 4, 3) := by decide +kernel
theorem dX10_fund_25 : decode cX10_fund 25 = .ok (.iconst 1, 1) := by decide +kernel
theorem dX10_fund_26 : decode cX10_fund 26 = .ok (.putfield 109, 3) := by decide +kernel
theorem dX10_fund_29 : decode cX10_fund 29 = .ok (.aload_n 0, 1) := by decide +kernel
theorem dX10_fund_30 : decode cX10_fund 30 = .ok (.getfield 109, 3) := by decide +kernel
theorem dX10_fund_33 : decode cX10_fund 33 = .ok (.ifCond .le 5, 3) := by decide +kernel
theorem dX10_fund_36 : decode cX10_fund 36 = .ok (.iconst 0, 1) := by decide +kernel
theorem dX10_fund_37 : decode cX10_fund 37 = .ok (.ireturn, 1) := by decide +kernel
theorem dX10_fund_38 : decode cX10_fund 38 = .ok (.aload_n 0, 1) := by decide +kernel
theorem dX10_fund_39 : decode cX10_fund 39 = .ok (.getfield 103, 3) := by decide +kernel
theorem dX10_fund_42 : decode cX10_fund 42 = .ok (.iload_n 1, 1) := by decide +kernel
theorem dX10_fund_43 : decode cX10_fund 43 = .ok (.dup2, 1) := by decide +kernel
theorem dX10_fund_44 : decode cX10_fund 44 = .ok (.iaload, 1) := by decide +kernel
theorem dX10_fund_45 : decode cX10_fund 45 = .ok (.iload_n 2, 1) := by decide +kernel
theorem dX10_fund_46 : decode cX10_fund 46 = .ok (.iadd, 1) := by decide +kernel
theorem dX10_fund_47 : decode cX10_fund 47 = .ok (.iastore, 1) := by decide +kernel
theorem dX10_fund_48 : decode cX10_fund 48 = .ok (.aload_n 0, 1) := by decide +kernel
theorem dX10_fund_49 : decode cX10_fund 49 = .ok (.getfield 103, 3) := by decide +kernel
theorem dX10_fund_52 : decode cX10_fund 52 = .ok (.iload_n 1, 1) := by decide +kernel
theorem dX10_fund_53 : decode cX10_fund 53 = .ok (.iaload, 1) := by decide +kernel
theorem dX10_fund_54 : decode cX10_fund 54 = .ok (.ireturn, 1) := by decide +kernel
theorem dX10_budget_0 : decode cX10_budget 0 = .ok (.aload_n 0, 1) := by decide +kernel
theorem dX10_budget_1 : decode cX10_budget 1 = .ok (.iload_n 1, 1) := by decide +kernel
theorem dX10_budget_2 : decode cX10_budget 2 = .ok (.iconst 0, 1) := by decide +kernel
theorem dX10_budget_3 : decode cX10_budget 3 = .ok (.iconst 2, 1) := by decide +kernel
theorem dX10_budget_4 : decode cX10_budget 4 = .ok (.invokestatic 115, 3) := by decide +kernel
theorem dX10_budget_7 : decode cX10_budget 7 = .ok (.ifCond .eq 7, 3) := by decide +kernel
theorem dX10_budget_10 : decode cX10_budget 10 = .ok (.iconst 0, 1) := by decide +kernel
theorem dX10_budget_11 : decode cX10_budget 11 = .ok (.goto 4, 3) := by decide +kernel
theorem dX10_budget_14 : decode cX10_budget 14 = .ok (.iconst 1, 1) := by decide +kernel
theorem dX10_budget_15 : decode cX10_budget 15 = .ok (.putfield 109, 3) := by decide +kernel
theorem dX10_budget_18 : decode cX10_budget 18 = .ok (.aload_n 0, 1) := by decide +kernel
theorem dX10_budget_19 : decode cX10_budget 19 = .ok (.getfield 109, 3) := by decide +kernel
theorem dX10_budget_22 : decode cX10_budget 22 = .ok (.ifCond .le 7, 3) := by decide +kernel
theorem dX10_budget_25 : decode cX10_budget 25 = .ok (.iconst 0, 1) := by decide +kernel
theorem dX10_budget_26 : decode cX10_budget 26 = .ok (.goto 9, 3) := by decide +kernel
theorem dX10_budget_29 : decode cX10_budget 29 = .ok (.aload_n 0, 1) := by decide +kernel
theorem dX10_budget_30 : decode cX10_budget 30 = .ok (.getfield 103, 3) := by decide +kernel
theorem dX10_budget_33 : decode cX10_budget 33 = .ok (.iload_n 1, 1) := by decide +kernel
theorem dX10_budget_34 : decode cX10_budget 34 = .ok (.iaload, 1) := by decide +kernel
theorem dX10_budget_35 : decode cX10_budget 35 = .ok (.ireturn, 1) := by decide +kernel
theorem dX10_starts_0 : decode cX10_starts 0 = .ok (.iconst 0, 1) := by decide +kernel
theorem dX10_starts_1 : decode cX10_starts 1 = .ok (.istore_n 3, 1) := by decide +kernel
theorem dX10_starts_2 : decode cX10_starts 2 = .ok (.iload_n 3, 1) := by decide +kernel
theorem dX10_starts_3 : decode cX10_starts 3 = .ok (.aload_n 0, 1) := by decide +kernel
theorem dX10_starts_4 : decode cX10_starts 4 = .ok (.getfield 171, 3) := by decide +kernel
theorem dX10_starts_7 : decode cX10_starts 7 = .ok (.if_icmp .ge 119, 3) := by decide +kernel
theorem dX10_starts_10 : decode cX10_starts 10 = .ok (.iconst 0, 1) := by decide +kernel
theorem dX10_starts_11 : decode cX10_starts 11 = .ok (.istore 4, 2) := by decide +kernel
theorem dX10_starts_13 : decode cX10_starts 13 = .ok (.iconst 0, 1) := by decide +kernel
theorem dX10_starts_14 : decode cX10_starts 14 = .ok (.istore 5, 2) := by decide +kernel
theorem dX10_starts_16 : decode cX10_starts 16 = .ok (.iload 5, 2) := by decide +kernel
theorem dX10_starts_18 : decode cX10_starts 18 = .ok (.aload_n 0, 1) := by decide +kernel
theorem dX10_starts_19 : decode cX10_starts 19 = .ok (.getfield 171, 3) := by decide +kernel
theorem dX10_starts_22 : decode cX10_starts 22 = .ok (.if_icmp .ge 80, 3) := by decide +kernel
theorem dX10_starts_25 : decode cX10_starts 25 = .ok (.aload_n 0, 1) := by decide +kernel
theorem dX10_starts_26 : decode cX10_starts 26 = .ok (.getfield 82, 3) := by decide +kernel
theorem dX10_starts_29 : decode cX10_starts 29 = .ok (.iload 5, 2) := by decide +kernel
theorem dX10_starts_31 : decode cX10_starts 31 = .ok (.iaload, 1) := by decide +kernel
theorem dX10_starts_32 : decode cX10_starts 32 = .ok (.iload_n 1, 1) := by decide +kernel
theorem dX10_starts_33 : decode cX10_starts 33 = .ok (.if_icmp .ne 45, 3) := by decide +kernel
theorem dX10_starts_36 : decode cX10_starts 36 = .ok (.aload_n 0, 1) := by decide +kernel
theorem dX10_starts_37 : decode cX10_starts 37 = .ok (.getfield 85, 3) := by decide +kernel
theorem dX10_starts_40 : decode cX10_starts 40 = .ok (.iload 5, 2) := by decide +kernel
theorem dX10_starts_42 : decode cX10_starts 42 = .ok (.iaload, 1) := by decide +kernel
theorem dX10_starts_43 : decode cX10_starts 43 = .ok (.aload_n 0, 1) := by decide +kernel
theorem dX10_starts_44 : decode cX10_starts 44 = .ok (.getfield 85, 3) := by decide +kernel
theorem dX10_starts_47 : decode cX10_starts 47 = .ok (.iload_n 3, 1) := by decide +kernel
theorem dX10_starts_48 : decode cX10_starts 48 = .ok (.iaload, 1) := by decide +kernel
theorem dX10_starts_49 : decode cX10_starts 49 = .ok (.if_icmp .gt 25, 3) := by decide +kernel
theorem dX10_starts_52 : decode cX10_starts 52 = .ok (.aload_n 0, 1) := by decide +kernel
theorem dX10_starts_53 : decode cX10_starts 53 = .ok (.getfield 85, 3) := by decide +kernel
theorem dX10_starts_56 : decode cX10_starts 56 = .ok (.iload 5, 2) := by decide +kernel
theorem dX10_starts_58 : decode cX10_starts 58 = .ok (.iaload, 1) := by decide +kernel
theorem dX10_starts_59 : decode cX10_starts 59 = .ok (.aload_n 0, 1) := by decide +kernel
theorem dX10_starts_60 : decode cX10_starts 60 = .ok (.getfield 85, 3) := by decide +kernel
theorem dX10_starts_63 : decode cX10_starts 63 = .ok (.iload_n 3, 1) := by decide +kernel
theorem dX10_starts_64 : decode cX10_starts 64 = .ok (.iaload, 1) := by decide +kernel
theorem dX10_starts_65 : decode cX10_starts 65 = .ok (.if_icmp .ne 13, 3) := by decide +kernel
theorem dX10_starts_68 : decode cX10_starts 68 = .ok (.iload 5, 2) := by decide +kernel
theorem dX10_starts_70 : decode cX10_starts 70 = .ok (.iload_n 3, 1) := by decide +kernel
theorem dX10_starts_71 : decode cX10_starts 71 = .ok (.if_icmp .ge 7, 3) := by decide +kernel
theorem dX10_starts_74 : decode cX10_starts 74 = .ok (.iconst 1, 1) := by decide +kernel
theorem dX10_starts_75 : decode cX10_starts 75 = .ok (.goto 4, 3) := by decide +kernel
theorem dX10_starts_78 : decode cX10_starts 78 = .ok (.iconst 0, 1) := by decide +kernel
theorem dX10_starts_79 : decode cX10_starts 79 = .ok (.istore 6, 2) := by decide +kernel
theorem dX10_starts_81 : decode cX10_starts 81 = .ok (.iload 4, 2) := by decide +kernel
theorem dX10_starts_83 : decode cX10_starts 83 = .ok (.iload 6, 2) := by decide +kernel
theorem dX10_starts_85 : decode cX10_starts 85 = .ok (.ifCond .eq 7, 3) := by decide +kernel
theorem dX10_starts_88 : decode cX10_starts 88 = .ok (.iconst 1, 1) := by decide +kernel
theorem dX10_starts_89 : decode cX10_starts 89 = .ok (.goto 4, 3) := by decide +kernel
theorem dX10_starts_92 : decode cX10_starts 92 = .ok (.iconst 0, 1) := by decide +kernel
theorem dX10_starts_93 : decode cX10_starts 93 = .ok (.iadd, 1) := by decide +kernel
theorem dX10_starts_94 : decode cX10_starts 94 = .ok (.istore 4, 2) := by decide +kernel
theorem dX10_starts_96 : decode cX10_starts 96 = .ok (.iinc 5 1, 3) := by decide +kernel
theorem dX10_starts_99 : decode cX10_starts 99 = .ok (.goto (-83), 3) := by decide +kernel
theorem dX10_starts_102 : decode cX10_starts 102 = .ok (.aload_n 0, 1) := by decide +kernel
theorem dX10_starts_103 : decode cX10_starts 103 = .ok (.getfield 82, 3) := by decide +kernel
theorem dX10_starts_106 : decode cX10_starts 106 = .ok (.iload_n 3, 1) := by decide +kernel
theorem dX10_starts_107 : decode cX10_starts 107 = .ok (.iaload, 1) := by decide +kernel
theorem dX10_starts_108 : decode cX10_starts 108 = .ok (.iload_n 1, 1) := by decide +kernel
theorem dX10_starts_109 : decode cX10_starts 109 = .ok (.if_icmp .ne 11, 3) := by decide +kernel
theorem dX10_starts_112 : decode cX10_starts 112 = .ok (.iload 4, 2) := by decide +kernel
theorem dX10_starts_114 : decode cX10_starts 114 = .ok (.iload_n 2, 1) := by decide +kernel
theorem dX10_starts_115 : decode cX10_starts 115 = .ok (.if_icmp .ne 5, 3) := by decide +kernel
theorem dX10_starts_118 : decode cX10_starts 118 = .ok (.iload_n 3, 1) := by decide +kernel
theorem dX10_starts_119 : decode cX10_starts 119 = .ok (.ireturn, 1) := by decide +kernel
theorem dX10_starts_120 : decode cX10_starts 120 = .ok (.iinc 3 1, 3) := by decide +kernel
theorem dX10_starts_123 : decode cX10_starts 123 = .ok (.goto (-121), 3) := by decide +kernel
theorem dX10_starts_126 : decode cX10_starts 126 = .ok (.iconst (-1), 1) := by decide +kernel
theorem dX10_starts_127 : decode cX10_starts 127 = .ok (.ireturn, 1) := by decide +kernel
theorem dX10_testTime_0 : decode cX10_testTime 0 = .ok (.aload_n 0, 1) := by decide +kernel
theorem dX10_testTime_1 : decode cX10_testTime 1 = .ok (.iload_n 1, 1) := by decide +kernel
theorem dX10_testTime_2 : decode cX10_testTime 2 = .ok (.invokevirtual 123, 3) := by decide +kernel
theorem dX10_testTime_5 : decode cX10_testTime 5 = .ok (.ifCond .eq 5, 3) := by decide +kernel
theorem dX10_testTime_8 : decode cX10_testTime 8 = .ok (.iconst 0, 1) := by decide +kernel
theorem dX10_testTime_9 : decode cX10_testTime 9 = .ok (.ireturn, 1) := by decide +kernel
theorem dX10_testTime_10 : decode cX10_testTime 10 = .ok (.iconst 4, 1) := by decide +kernel
theorem dX10_testTime_11 : decode cX10_testTime 11 = .ok (.newarray .int, 2) := by decide +kernel
theorem dX10_testTime_13 : decode cX10_testTime 13 = .ok (.astore_n 2, 1) := by decide +kernel
theorem dX10_testTime_14 : decode cX10_testTime 14 = .ok (.iconst 0, 1) := by decide +kernel
theorem dX10_testTime_15 : decode cX10_testTime 15 = .ok (.istore_n 3, 1) := by decide +kernel
theorem dX10_testTime_16 : decode cX10_testTime 16 = .ok (.iconst 0, 1) := by decide +kernel
theorem dX10_testTime_17 : decode cX10_testTime 17 = .ok (.istore 4, 2) := by decide +kernel
theorem dX10_testTime_19 : decode cX10_testTime 19 = .ok (.aload_n 0, 1) := by decide +kernel
theorem dX10_testTime_20 : decode cX10_testTime 20 = .ok (.iload_n 1, 1) := by decide +kernel
theorem dX10_testTime_21 : decode cX10_testTime 21 = .ok (.iconst 0, 1) := by decide +kernel
theorem dX10_testTime_22 : decode cX10_testTime 22 = .ok (.invokevirtual 177, 3) := by decide +kernel
theorem dX10_testTime_25 : decode cX10_testTime 25 = .ok (.istore 5, 2) := by decide +kernel
theorem dX10_testTime_27 : decode cX10_testTime 27 = .ok (.iload 5, 2) := by decide +kernel
theorem dX10_testTime_29 : decode cX10_testTime 29 = .ok (.iconst (-1), 1) := by decide +kernel
theorem dX10_testTime_30 : decode cX10_testTime 30 = .ok (.if_icmp .eq 82, 3) := by decide +kernel
theorem dX10_testTime_33 : decode cX10_testTime 33 = .ok (.iconst 0, 1) := by decide +kernel
theorem dX10_testTime_34 : decode cX10_testTime 34 = .ok (.istore 6, 2) := by decide +kernel
theorem dX10_testTime_36 : decode cX10_testTime 36 = .ok (.iconst 1, 1) := by decide +kernel
theorem dX10_testTime_37 : decode cX10_testTime 37 = .ok (.istore 7, 2) := by decide +kernel
theorem dX10_testTime_39 : decode cX10_testTime 39 = .ok (.iload 7, 2) := by decide +kernel
theorem dX10_testTime_41 : decode cX10_testTime 41 = .ok (.aload_n 0, 1) := by decide +kernel
theorem dX10_testTime_42 : decode cX10_testTime 42 = .ok (.getfield 99, 3) := by decide +kernel
theorem dX10_testTime_45 : decode cX10_testTime 45 = .ok (.if_icmp .ge 29, 3) := by decide +kernel
theorem dX10_testTime_48 : decode cX10_testTime 48 = .ok (.aload_n 2, 1) := by decide +kernel
theorem dX10_testTime_49 : decode cX10_testTime 49 = .ok (.iload 7, 2) := by decide +kernel
theorem dX10_testTime_51 : decode cX10_testTime 51 = .ok (.iaload, 1) := by decide +kernel
theorem dX10_testTime_52 : decode cX10_testTime 52 = .ok (.aload_n 2, 1) := by decide +kernel
theorem dX10_testTime_53 : decode cX10_testTime 53 = .ok (.iload 6, 2) := by decide +kernel
theorem dX10_testTime_55 : decode cX10_testTime 55 = .ok (.iaload, 1) := by decide +kernel
theorem dX10_testTime_56 : decode cX10_testTime 56 = .ok (.if_icmp .ge 8, 3) := by decide +kernel
theorem dX10_testTime_59 : decode cX10_testTime 59 = .ok (.iload 7, 2) := by decide +kernel
theorem dX10_testTime_61 : decode cX10_testTime 61 = .ok (.goto 5, 3) := by decide +kernel
theorem dX10_testTime_64 : decode cX10_testTime 64 = .ok (.iload 6, 2) := by decide +kernel
theorem dX10_testTime_66 : decode cX10_testTime 66 = .ok (.istore 6, 2) := by decide +kernel
theorem dX10_testTime_68 : decode cX10_testTime 68 = .ok (.iinc 7 1, 3) := by decide +kernel
theorem dX10_testTime_71 : decode cX10_testTime 71 = .ok (.goto (-32), 3) := by decide +kernel
theorem dX10_testTime_74 : decode cX10_testTime 74 = .ok (.aload_n 2, 1) := by decide +kernel
theorem dX10_testTime_75 : decode cX10_testTime 75 = .ok (.iload 6, 2) := by decide +kernel
theorem dX10_testTime_77 : decode cX10_testTime 77 = .ok (.dup2, 1) := by decide +kernel
theorem dX10_testTime_78 : decode cX10_testTime 78 = .ok (.iaload, 1) := by decide +kernel
theorem dX10_testTime_79 : decode cX10_testTime 79 = .ok (.aload_n 0, 1) := by decide +kernel
theorem dX10_testTime_80 : decode cX10_testTime 80 = .ok (.getfield 85, 3) := by decide +kernel
theorem dX10_testTime_83 : decode cX10_testTime 83 = .ok (.iload 5, 2) := by decide +kernel
theorem dX10_testTime_85 : decode cX10_testTime 85 = .ok (.iaload, 1) := by decide +kernel
theorem dX10_testTime_86 : decode cX10_testTime 86 = .ok (.iadd, 1) := by decide +kernel
theorem dX10_testTime_87 : decode cX10_testTime 87 = .ok (.iastore, 1) := by decide +kernel
theorem dX10_testTime_88 : decode cX10_testTime 88 = .ok (.iload_n 3, 1) := by decide +kernel
theorem dX10_testTime_89 : decode cX10_testTime 89 = .ok (.aload_n 2, 1) := by decide +kernel
theorem dX10_testTime_90 : decode cX10_testTime 90 = .ok (.iload 6, 2) := by decide +kernel
theorem dX10_testTime_92 : decode cX10_testTime 92 = .ok (.iaload, 1) := by decide +kernel
theorem dX10_testTime_93 : decode cX10_testTime 93 = .ok (.invokestatic 180, 3) := by decide +kernel
theorem dX10_testTime_96 : decode cX10_testTime 96 = .ok (.istore_n 3, 1) := by decide +kernel
theorem dX10_testTime_97 : decode cX10_testTime 97 = .ok (.iinc 4 1, 3) := by decide +kernel
theorem dX10_testTime_100 : decode cX10_testTime 100 = .ok (.aload_n 0, 1) := by decide +kernel
theorem dX10_testTime_101 : decode cX10_testTime 101 = .ok (.iload_n 1, 1) := by decide +kernel
theorem dX10_testTime_102 : decode cX10_testTime 102 = .ok (.iload 4, 2) := by decide +kernel
theorem dX10_testTime_104 : decode cX10_testTime 104 = .ok (.invokevirtual 177, 3) := by decide +kernel
theorem dX10_testTime_107 : decode cX10_testTime 107 = .ok (.istore 5, 2) := by decide +kernel
theorem dX10_testTime_109 : decode cX10_testTime 109 = .ok (.goto (-82), 3) := by decide +kernel
theorem dX10_testTime_112 : decode cX10_testTime 112 = .ok (.iload_n 3, 1) := by decide +kernel
theorem dX10_testTime_113 : decode cX10_testTime 113 = .ok (.ireturn, 1) := by decide +kernel
theorem dX10_records_0 : decode cX10_records 0 = .ok (.aload_n 0, 1) := by decide +kernel
theorem dX10_records_1 : decode cX10_records 1 = .ok (.getfield 96, 3) := by decide +kernel
theorem dX10_records_4 : decode cX10_records 4 = .ok (.iload_n 1, 1) := by decide +kernel
theorem dX10_records_5 : decode cX10_records 5 = .ok (.iaload, 1) := by decide +kernel
theorem dX10_records_6 : decode cX10_records 6 = .ok (.bipush 8, 2) := by decide +kernel
theorem dX10_records_8 : decode cX10_records 8 = .ok (.if_icmp .ne 45, 3) := by decide +kernel
theorem dX10_records_11 : decode cX10_records 11 = .ok (.iconst 1, 1) := by decide +kernel
theorem dX10_records_12 : decode cX10_records 12 = .ok (.istore_n 2, 1) := by decide +kernel
theorem dX10_records_13 : decode cX10_records 13 = .ok (.iload_n 2, 1) := by decide +kernel
theorem dX10_records_14 : decode cX10_records 14 = .ok (.bipush 8, 2) := by decide +kernel
theorem dX10_records_16 : decode cX10_records 16 = .ok (.if_icmp .ge 27, 3) := by decide +kernel
theorem dX10_records_19 : decode cX10_records 19 = .ok (.aload_n 0, 1) := by decide +kernel
theorem dX10_records_20 : decode cX10_records 20 = .ok (.getfield 93, 3) := by decide +kernel
theorem dX10_records_23 : decode cX10_records 23 = .ok (.iload_n 1, 1) := by decide +kernel
theorem dX10_records_24 : decode cX10_records 24 = .ok (.aaload, 1) := by decide +kernel
theorem dX10_records_25 : decode cX10_records 25 = .ok (.iload_n 2, 1) := by decide +kernel
theorem dX10_records_26 : decode cX10_records 26 = .ok (.iconst 1, 1) := by decide +kernel
theorem dX10_records_27 : decode cX10_records 27 = .ok (.isub, 1) := by decide +kernel
theorem dX10_records_28 : decode cX10_records 28 = .ok (.aload_n 0, 1) := by decide +kernel
theorem dX10_records_29 : decode cX10_records 29 = .ok (.getfield 93, 3) := by decide +kernel
theorem dX10_records_32 : decode cX10_records 32 = .ok (.iload_n 1, 1) := by decide +kernel
theorem dX10_records_33 : decode cX10_records 33 = .ok (.aaload, 1) := by decide +kernel
theorem dX10_records_34 : decode cX10_records 34 = .ok (.iload_n 2, 1) := by decide +kernel
theorem dX10_records_35 : decode cX10_records 35 = .ok (.baload, 1) := by decide +kernel
theorem dX10_records_36 : decode cX10_records 36 = .ok (.bastore, 1) := by decide +kernel
theorem dX10_records_37 : decode cX10_records 37 = .ok (.iinc 2 1, 3) := by decide +kernel
theorem dX10_records_40 : decode cX10_records 40 = .ok (.goto (-27), 3) := by decide +kernel
theorem dX10_records_43 : decode cX10_records 43 = .ok (.aload_n 0, 1) := by decide +kernel
theorem dX10_records_44 : decode cX10_records 44 = .ok (.getfield 96, 3) := by decide +kernel
theorem dX10_records_47 : decode cX10_records 47 = .ok (.iload_n 1, 1) := by decide +kernel
theorem dX10_records_48 : decode cX10_records 48 = .ok (.dup2, 1) := by decide +kernel
theorem dX10_records_49 : decode cX10_records 49 = .ok (.iaload, 1) := by decide +kernel
theorem dX10_records_50 : decode cX10_records 50 = .ok (.iconst 1, 1) := by decide +kernel
theorem dX10_records_51 : decode cX10_records 51 = .ok (.isub, 1) := by decide +kernel
theorem dX10_records_52 : decode cX10_records 52 = .ok (.iastore, 1) := by decide +kernel
theorem dX10_records_53 : decode cX10_records 53 = .ok (.aload_n 0, 1) := by decide +kernel
theorem dX10_records_54 : decode cX10_records 54 = .ok (.getfield 93, 3) := by decide +kernel
theorem dX10_records_57 : decode cX10_records 57 = .ok (.iload_n 1, 1) := by decide +kernel
theorem dX10_records_58 : decode cX10_records 58 = .ok (.aaload, 1) := by decide +kernel
theorem dX10_records_59 : decode cX10_records 59 = .ok (.aload_n 0, 1) := by decide +kernel
theorem dX10_records_60 : decode cX10_records 60 = .ok (.getfield 96, 3) := by decide +kernel
theorem dX10_records_63 : decode cX10_records 63 = .ok (.iload_n 1, 1) := by decide +kernel
theorem dX10_records_64 : decode cX10_records 64 = .ok (.iaload, 1) := by decide +kernel
theorem dX10_records_65 : decode cX10_records 65 = .ok (.aload_n 0, 1) := by decide +kernel
theorem dX10_records_66 : decode cX10_records 66 = .ok (.getfield 88, 3) := by decide +kernel
theorem dX10_records_69 : decode cX10_records 69 = .ok (.iload_n 1, 1) := by decide +kernel
theorem dX10_records_70 : decode cX10_records 70 = .ok (.baload, 1) := by decide +kernel
theorem dX10_records_71 : decode cX10_records 71 = .ok (.bastore, 1) := by decide +kernel
theorem dX10_records_72 : decode cX10_records 72 = .ok (.aload_n 0, 1) := by decide +kernel
theorem dX10_records_73 : decode cX10_records 73 = .ok (.getfield 96, 3) := by decide +kernel
theorem dX10_records_76 : decode cX10_records 76 = .ok (.iload_n 1, 1) := by decide +kernel
theorem dX10_records_77 : decode cX10_records 77 = .ok (.dup2, 1) := by decide +kernel
theorem dX10_records_78 : decode cX10_records 78 = .ok (.iaload, 1) := by decide +kernel
theorem dX10_records_79 : decode cX10_records 79 = .ok (.iconst 1, 1) := by decide +kernel
theorem dX10_records_80 : decode cX10_records 80 = .ok (.iadd, 1) := by decide +kernel
theorem dX10_records_81 : decode cX10_records 81 = .ok (.iastore, 1) := by decide +kernel
theorem dX10_records_82 : decode cX10_records 82 = .ok (.return_, 1) := by decide +kernel
theorem dX10_test_0 : decode cX10_test 0 = .ok (.aload_n 0, 1) := by decide +kernel
theorem dX10_test_1 : decode cX10_test 1 = .ok (.iload_n 1, 1) := by decide +kernel
theorem dX10_test_2 : decode cX10_test 2 = .ok (.invokevirtual 123, 3) := by decide +kernel
theorem dX10_test_5 : decode cX10_test 5 = .ok (.ifCond .eq 5, 3) := by decide +kernel
theorem dX10_test_8 : decode cX10_test 8 = .ok (.iconst 0, 1) := by decide +kernel
theorem dX10_test_9 : decode cX10_test 9 = .ok (.ireturn, 1) := by decide +kernel
theorem dX10_test_10 : decode cX10_test 10 = .ok (.aload_n 0, 1) := by decide +kernel
theorem dX10_test_11 : decode cX10_test 11 = .ok (.iload_n 1, 1) := by decide +kernel
theorem dX10_test_12 : decode cX10_test 12 = .ok (.invokevirtual 152, 3) := by decide +kernel
theorem dX10_test_15 : decode cX10_test 15 = .ok (.istore_n 2, 1) := by decide +kernel
theorem dX10_test_16 : decode cX10_test 16 = .ok (.iload_n 2, 1) := by decide +kernel
theorem dX10_test_17 : decode cX10_test 17 = .ok (.ifCond .eq 15, 3) := by decide +kernel
theorem dX10_test_20 : decode cX10_test 20 = .ok (.aload_n 0, 1) := by decide +kernel
theorem dX10_test_21 : decode cX10_test 21 = .ok (.iload_n 1, 1) := by decide +kernel
theorem dX10_test_22 : decode cX10_test 22 = .ok (.invokevirtual 165, 3) := by decide +kernel
theorem dX10_test_25 : decode cX10_test 25 = .ok (.ifCond .eq 7, 3) := by decide +kernel
theorem dX10_test_28 : decode cX10_test 28 = .ok (.iconst 1, 1) := by decide +kernel
theorem dX10_test_29 : decode cX10_test 29 = .ok (.goto 4, 3) := by decide +kernel
theorem dX10_test_32 : decode cX10_test 32 = .ok (.iconst 0, 1) := by decide +kernel
theorem dX10_test_33 : decode cX10_test 33 = .ok (.istore_n 3, 1) := by decide +kernel
theorem dX10_test_34 : decode cX10_test 34 = .ok (.iconst 0, 1) := by decide +kernel
theorem dX10_test_35 : decode cX10_test 35 = .ok (.istore 4, 2) := by decide +kernel
theorem dX10_test_37 : decode cX10_test 37 = .ok (.iconst 0, 1) := by decide +kernel
theorem dX10_test_38 : decode cX10_test 38 = .ok (.istore 5, 2) := by decide +kernel
theorem dX10_test_40 : decode cX10_test 40 = .ok (.iconst 0, 1) := by decide +kernel
theorem dX10_test_41 : decode cX10_test 41 = .ok (.istore 6, 2) := by decide +kernel
theorem dX10_test_43 : decode cX10_test 43 = .ok (.iload 6, 2) := by decide +kernel
theorem dX10_test_45 : decode cX10_test 45 = .ok (.aload_n 0, 1) := by decide +kernel
theorem dX10_test_46 : decode cX10_test 46 = .ok (.getfield 171, 3) := by decide +kernel
theorem dX10_test_49 : decode cX10_test 49 = .ok (.if_icmp .ge 67, 3) := by decide +kernel
theorem dX10_test_52 : decode cX10_test 52 = .ok (.iload 4, 2) := by decide +kernel
theorem dX10_test_54 : decode cX10_test 54 = .ok (.aload_n 0, 1) := by decide +kernel
theorem dX10_test_55 : decode cX10_test 55 = .ok (.getfield 82, 3) := by decide +kernel
theorem dX10_test_58 : decode cX10_test 58 = .ok (.iload 6, 2) := by decide +kernel
theorem dX10_test_60 : decode cX10_test 60 = .ok (.iaload, 1) := by decide +kernel
theorem dX10_test_61 : decode cX10_test 61 = .ok (.iload_n 1, 1) := by decide +kernel
theorem dX10_test_62 : decode cX10_test 62 = .ok (.if_icmp .ne 13, 3) := by decide +kernel
theorem dX10_test_65 : decode cX10_test 65 = .ok (.aload_n 0, 1) := by decide +kernel
theorem dX10_test_66 : decode cX10_test 66 = .ok (.getfield 85, 3) := by decide +kernel
theorem dX10_test_69 : decode cX10_test 69 = .ok (.iload 6, 2) := by decide +kernel
theorem dX10_test_71 : decode cX10_test 71 = .ok (.iaload, 1) := by decide +kernel
theorem dX10_test_72 : decode cX10_test 72 = .ok (.goto 4, 3) := by decide +kernel
theorem dX10_test_75 : decode cX10_test 75 = .ok (.iconst 0, 1) := by decide +kernel
theorem dX10_test_76 : decode cX10_test 76 = .ok (.iadd, 1) := by decide +kernel
theorem dX10_test_77 : decode cX10_test 77 = .ok (.istore 4, 2) := by decide +kernel
theorem dX10_test_79 : decode cX10_test 79 = .ok (.iload 5, 2) := by decide +kernel
theorem dX10_test_81 : decode cX10_test 81 = .ok (.aload_n 0, 1) := by decide +kernel
theorem dX10_test_82 : decode cX10_test 82 = .ok (.getfield 82, 3) := by decide +kernel
theorem dX10_test_85 : decode cX10_test 85 = .ok (.iload 6, 2) := by decide +kernel
theorem dX10_test_87 : decode cX10_test 87 = .ok (.iaload, 1) := by decide +kernel
theorem dX10_test_88 : decode cX10_test 88 = .ok (.iload_n 1, 1) := by decide +kernel
theorem dX10_test_89 : decode cX10_test 89 = .ok (.if_icmp .ne 17, 3) := by decide +kernel
theorem dX10_test_92 : decode cX10_test 92 = .ok (.aload_n 0, 1) := by decide +kernel
theorem dX10_test_93 : decode cX10_test 93 = .ok (.getfield 88, 3) := by decide +kernel
theorem dX10_test_96 : decode cX10_test 96 = .ok (.iload 6, 2) := by decide +kernel
theorem dX10_test_98 : decode cX10_test 98 = .ok (.baload, 1) := by decide +kernel
theorem dX10_test_99 : decode cX10_test 99 = .ok (.ifCond .eq 7, 3) := by decide +kernel
theorem dX10_test_102 : decode cX10_test 102 = .ok (.iconst 1, 1) := by decide +kernel
theorem dX10_test_103 : decode cX10_test 103 = .ok (.goto 4, 3) := by decide +kernel
theorem dX10_test_106 : decode cX10_test 106 = .ok (.iconst 0, 1) := by decide +kernel
theorem dX10_test_107 : decode cX10_test 107 = .ok (.iadd, 1) := by decide +kernel
theorem dX10_test_108 : decode cX10_test 108 = .ok (.istore 5, 2) := by decide +kernel
theorem dX10_test_110 : decode cX10_test 110 = .ok (.iinc 6 1, 3) := by decide +kernel
theorem dX10_test_113 : decode cX10_test 113 = .ok (.goto (-70), 3) := by decide +kernel
theorem dX10_test_116 : decode cX10_test 116 = .ok (.aload_n 0, 1) := by decide +kernel
theorem dX10_test_117 : decode cX10_test 117 = .ok (.iload_n 2, 1) := by decide +kernel
theorem dX10_test_118 : decode cX10_test 118 = .ok (.ifCond .ne 7, 3) := by decide +kernel
theorem dX10_test_121 : decode cX10_test 121 = .ok (.iconst 2, 1) := by decide +kernel
theorem dX10_test_122 : decode cX10_test 122 = .ok (.goto 28, 3) := by decide +kernel
theorem dX10_test_125 : decode cX10_test 125 = .ok (.iload_n 3, 1) := by decide +kernel
theorem dX10_test_126 : decode cX10_test 126 = .ok (.ifCond .ne 19, 3) := by decide +kernel
theorem dX10_test_129 : decode cX10_test 129 = .ok (.aload_n 0, 1) := by decide +kernel
theorem dX10_test_130 : decode cX10_test 130 = .ok (.getfield 103, 3) := by decide +kernel
theorem dX10_test_133 : decode cX10_test 133 = .ok (.aload_n 0, 1) := by decide +kernel
theorem dX10_test_134 : decode cX10_test 134 = .ok (.getfield 9, 3) := by decide +kernel
theorem dX10_test_137 : decode cX10_test 137 = .ok (.iload_n 1, 1) := by decide +kernel
theorem dX10_test_138 : decode cX10_test 138 = .ok (.iaload, 1) := by decide +kernel
theorem dX10_test_139 : decode cX10_test 139 = .ok (.iaload, 1) := by decide +kernel
theorem dX10_test_140 : decode cX10_test 140 = .ok (.iload 4, 2) := by decide +kernel
theorem dX10_test_142 : decode cX10_test 142 = .ok (.if_icmp .ge 7, 3) := by decide +kernel
theorem dX10_test_145 : decode cX10_test 145 = .ok (.iconst 3, 1) := by decide +kernel
theorem dX10_test_146 : decode cX10_test 146 = .ok (.goto 4, 3) := by decide +kernel
theorem dX10_test_149 : decode cX10_test 149 = .ok (.iconst 0, 1) := by decide +kernel
theorem dX10_test_150 : decode cX10_test 150 = .ok (.putfield 109, 3) := by decide +kernel
theorem dX10_test_153 : decode cX10_test 153 = .ok (.aload_n 0, 1) := by decide +kernel
theorem dX10_test_154 : decode cX10_test 154 = .ok (.getfield 109, 3) := by decide +kernel
theorem dX10_test_157 : decode cX10_test 157 = .ok (.ifCond .le 5, 3) := by decide +kernel
theorem dX10_test_160 : decode cX10_test 160 = .ok (.iconst 0, 1) := by decide +kernel
theorem dX10_test_161 : decode cX10_test 161 = .ok (.ireturn, 1) := by decide +kernel
theorem dX10_test_162 : decode cX10_test 162 = .ok (.aload_n 0, 1) := by decide +kernel
theorem dX10_test_163 : decode cX10_test 163 = .ok (.getfield 103, 3) := by decide +kernel
theorem dX10_test_166 : decode cX10_test 166 = .ok (.aload_n 0, 1) := by decide +kernel
theorem dX10_test_167 : decode cX10_test 167 = .ok (.getfield 9, 3) := by decide +kernel
theorem dX10_test_170 : decode cX10_test 170 = .ok (.iload_n 1, 1) := by decide +kernel
theorem dX10_test_171 : decode cX10_test 171 = .ok (.iaload, 1) := by decide +kernel
theorem dX10_test_172 : decode cX10_test 172 = .ok (.dup2, 1) := by decide +kernel
theorem dX10_test_173 : decode cX10_test 173 = .ok (.iaload, 1) := by decide +kernel
theorem dX10_test_174 : decode cX10_test 174 = .ok (.iload 4, 2) := by decide +kernel
theorem dX10_test_176 : decode cX10_test 176 = .ok (.isub, 1) := by decide +kernel
theorem dX10_test_177 : decode cX10_test 177 = .ok (.iastore, 1) := by decide +kernel
theorem dX10_test_178 : decode cX10_test 178 = .ok (.aload_n 0, 1) := by decide +kernel
theorem dX10_test_179 : decode cX10_test 179 = .ok (.dup, 1) := by decide +kernel
theorem dX10_test_180 : decode cX10_test 180 = .ok (.getfield 185, 3) := by decide +kernel
theorem dX10_test_183 : decode cX10_test 183 = .ok (.iload 4, 2) := by decide +kernel
theorem dX10_test_185 : decode cX10_test 185 = .ok (.iadd, 1) := by decide +kernel
theorem dX10_test_186 : decode cX10_test 186 = .ok (.putfield 185, 3) := by decide +kernel
theorem dX10_test_189 : decode cX10_test 189 = .ok (.aload_n 0, 1) := by decide +kernel
theorem dX10_test_190 : decode cX10_test 190 = .ok (.dup, 1) := by decide +kernel
theorem dX10_test_191 : decode cX10_test 191 = .ok (.getfield 188, 3) := by decide +kernel
theorem dX10_test_194 : decode cX10_test 194 = .ok (.iconst 1, 1) := by decide +kernel
theorem dX10_test_195 : decode cX10_test 195 = .ok (.iadd, 1) := by decide +kernel
theorem dX10_test_196 : decode cX10_test 196 = .ok (.putfield 188, 3) := by decide +kernel
theorem dX10_test_199 : decode cX10_test 199 = .ok (.iconst 0, 1) := by decide +kernel
theorem dX10_test_200 : decode cX10_test 200 = .ok (.istore 6, 2) := by decide +kernel
theorem dX10_test_202 : decode cX10_test 202 = .ok (.iload 6, 2) := by decide +kernel
theorem dX10_test_204 : decode cX10_test 204 = .ok (.aload_n 0, 1) := by decide +kernel
theorem dX10_test_205 : decode cX10_test 205 = .ok (.getfield 171, 3) := by decide +kernel
theorem dX10_test_208 : decode cX10_test 208 = .ok (.if_icmp .ge 26, 3) := by decide +kernel
theorem dX10_test_211 : decode cX10_test 211 = .ok (.aload_n 0, 1) := by decide +kernel
theorem dX10_test_212 : decode cX10_test 212 = .ok (.getfield 82, 3) := by decide +kernel
theorem dX10_test_215 : decode cX10_test 215 = .ok (.iload 6, 2) := by decide +kernel
theorem dX10_test_217 : decode cX10_test 217 = .ok (.iaload, 1) := by decide +kernel
theorem dX10_test_218 : decode cX10_test 218 = .ok (.iload_n 1, 1) := by decide +kernel
theorem dX10_test_219 : decode cX10_test 219 = .ok (.if_icmp .ne 9, 3) := by decide +kernel
theorem dX10_test_222 : decode cX10_test 222 = .ok (.aload_n 0, 1) := by decide +kernel
theorem dX10_test_223 : decode cX10_test 223 = .ok (.iload 6, 2) := by decide +kernel
theorem dX10_test_225 : decode cX10_test 225 = .ok (.invokevirtual 191, 3) := by decide +kernel
theorem dX10_test_228 : decode cX10_test 228 = .ok (.iinc 6 1, 3) := by decide +kernel
theorem dX10_test_231 : decode cX10_test 231 = .ok (.goto (-29), 3) := by decide +kernel
theorem dX10_test_234 : decode cX10_test 234 = .ok (.aload_n 0, 1) := by decide +kernel
theorem dX10_test_235 : decode cX10_test 235 = .ok (.getfield 43, 3) := by decide +kernel
theorem dX10_test_238 : decode cX10_test 238 = .ok (.iload_n 1, 1) := by decide +kernel
theorem dX10_test_239 : decode cX10_test 239 = .ok (.iload 5, 2) := by decide +kernel
theorem dX10_test_241 : decode cX10_test 241 = .ok (.ifCond .ne 7, 3) := by decide +kernel
theorem dX10_test_244 : decode cX10_test 244 = .ok (.iconst 1, 1) := by decide +kernel
theorem dX10_test_245 : decode cX10_test 245 = .ok (.goto 4, 3) := by decide +kernel
theorem dX10_test_248 : decode cX10_test 248 = .ok (.iconst 0, 1) := by decide +kernel
theorem dX10_test_249 : decode cX10_test 249 = .ok (.bastore, 1) := by decide +kernel
theorem dX10_test_250 : decode cX10_test 250 = .ok (.aload_n 0, 1) := by decide +kernel
theorem dX10_test_251 : decode cX10_test 251 = .ok (.getfield 49, 3) := by decide +kernel
theorem dX10_test_254 : decode cX10_test 254 = .ok (.iload_n 1, 1) := by decide +kernel
theorem dX10_test_255 : decode cX10_test 255 = .ok (.aload_n 0, 1) := by decide +kernel
theorem dX10_test_256 : decode cX10_test 256 = .ok (.getfield 13, 3) := by decide +kernel
theorem dX10_test_259 : decode cX10_test 259 = .ok (.iload_n 1, 1) := by decide +kernel
theorem dX10_test_260 : decode cX10_test 260 = .ok (.iaload, 1) := by decide +kernel
theorem dX10_test_261 : decode cX10_test 261 = .ok (.iastore, 1) := by decide +kernel
theorem dX10_test_262 : decode cX10_test 262 = .ok (.aload_n 0, 1) := by decide +kernel
theorem dX10_test_263 : decode cX10_test 263 = .ok (.getfield 52, 3) := by decide +kernel
theorem dX10_test_266 : decode cX10_test 266 = .ok (.iload_n 1, 1) := by decide +kernel
theorem dX10_test_267 : decode cX10_test 267 = .ok (.aload_n 0, 1) := by decide +kernel
theorem dX10_test_268 : decode cX10_test 268 = .ok (.getfield 16, 3) := by decide +kernel
theorem dX10_test_271 : decode cX10_test 271 = .ok (.iload_n 1, 1) := by decide +kernel
theorem dX10_test_272 : decode cX10_test 272 = .ok (.iaload, 1) := by decide +kernel
theorem dX10_test_273 : decode cX10_test 273 = .ok (.iastore, 1) := by decide +kernel
theorem dX10_test_274 : decode cX10_test 274 = .ok (.iconst 0, 1) := by decide +kernel
theorem dX10_test_275 : decode cX10_test 275 = .ok (.istore 6, 2) := by decide +kernel
theorem dX10_test_277 : decode cX10_test 277 = .ok (.iload 6, 2) := by decide +kernel
theorem dX10_test_279 : decode cX10_test 279 = .ok (.bipush 6, 2) := by decide +kernel
theorem dX10_test_281 : decode cX10_test 281 = .ok (.if_icmp .ge 60, 3) := by decide +kernel
theorem dX10_test_284 : decode cX10_test 284 = .ok (.aload_n 0, 1) := by decide +kernel
theorem dX10_test_285 : decode cX10_test 285 = .ok (.getfield 46, 3) := by decide +kernel
theorem dX10_test_288 : decode cX10_test 288 = .ok (.iload_n 1, 1) := by decide +kernel
theorem dX10_test_289 : decode cX10_test 289 = .ok (.aaload, 1) := by decide +kernel
theorem dX10_test_290 : decode cX10_test 290 = .ok (.iload 6, 2) := by decide +kernel
theorem dX10_test_292 : decode cX10_test 292 = .ok (.aload_n 0, 1) := by decide +kernel
theorem dX10_test_293 : decode cX10_test 293 = .ok (.iload 6, 2) := by decide +kernel
theorem dX10_test_295 : decode cX10_test 295 = .ok (.invokevirtual 155, 3) := by decide +kernel
theorem dX10_test_298 : decode cX10_test 298 = .ok (.iastore, 1) := by decide +kernel
theorem dX10_test_299 : decode cX10_test 299 = .ok (.aload_n 0, 1) := by decide +kernel
theorem dX10_test_300 : decode cX10_test 300 = .ok (.getfield 55, 3) := by decide +kernel
theorem dX10_test_303 : decode cX10_test 303 = .ok (.iload_n 1, 1) := by decide +kernel
theorem dX10_test_304 : decode cX10_test 304 = .ok (.aaload, 1) := by decide +kernel
theorem dX10_test_305 : decode cX10_test 305 = .ok (.iload 6, 2) := by decide +kernel
theorem dX10_test_307 : decode cX10_test 307 = .ok (.aload_n 0, 1) := by decide +kernel
theorem dX10_test_308 : decode cX10_test 308 = .ok (.getfield 21, 3) := by decide +kernel
theorem dX10_test_311 : decode cX10_test 311 = .ok (.iload_n 1, 1) := by decide +kernel
theorem dX10_test_312 : decode cX10_test 312 = .ok (.aaload, 1) := by decide +kernel
theorem dX10_test_313 : decode cX10_test 313 = .ok (.iload 6, 2) := by decide +kernel
theorem dX10_test_315 : decode cX10_test 315 = .ok (.iaload, 1) := by decide +kernel
theorem dX10_test_316 : decode cX10_test 316 = .ok (.iastore, 1) := by decide +kernel
theorem dX10_test_317 : decode cX10_test 317 = .ok (.aload_n 0, 1) := by decide +kernel
theorem dX10_test_318 : decode cX10_test 318 = .ok (.getfield 58, 3) := by decide +kernel
theorem dX10_test_321 : decode cX10_test 321 = .ok (.iload_n 1, 1) := by decide +kernel
theorem dX10_test_322 : decode cX10_test 322 = .ok (.aaload, 1) := by decide +kernel
theorem dX10_test_323 : decode cX10_test 323 = .ok (.iload 6, 2) := by decide +kernel
theorem dX10_test_325 : decode cX10_test 325 = .ok (.aload_n 0, 1) := by decide +kernel
theorem dX10_test_326 : decode cX10_test 326 = .ok (.getfield 24, 3) := by decide +kernel
theorem dX10_test_329 : decode cX10_test 329 = .ok (.iload_n 1, 1) := by decide +kernel
theorem dX10_test_330 : decode cX10_test 330 = .ok (.aaload, 1) := by decide +kernel
theorem dX10_test_331 : decode cX10_test 331 = .ok (.iload 6, 2) := by decide +kernel
theorem dX10_test_333 : decode cX10_test 333 = .ok (.iaload, 1) := by decide +kernel
theorem dX10_test_334 : decode cX10_test 334 = .ok (.iastore, 1) := by decide +kernel
theorem dX10_test_335 : decode cX10_test 335 = .ok (.iinc 6 1, 3) := by decide +kernel
theorem dX10_test_338 : decode cX10_test 338 = .ok (.goto (-61), 3) := by decide +kernel
theorem dX10_test_341 : decode cX10_test 341 = .ok (.iload 5, 2) := by decide +kernel
theorem dX10_test_343 : decode cX10_test 343 = .ok (.ireturn, 1) := by decide +kernel
theorem dX10_flakyOf_0 : decode cX10_flakyOf 0 = .ok (.iconst 0, 1) := by decide +kernel
theorem dX10_flakyOf_1 : decode cX10_flakyOf 1 = .ok (.istore_n 2, 1) := by decide +kernel
theorem dX10_flakyOf_2 : decode cX10_flakyOf 2 = .ok (.iconst 1, 1) := by decide +kernel
theorem dX10_flakyOf_3 : decode cX10_flakyOf 3 = .ok (.istore_n 3, 1) := by decide +kernel
theorem dX10_flakyOf_4 : decode cX10_flakyOf 4 = .ok (.iload_n 3, 1) := by decide +kernel
theorem dX10_flakyOf_5 : decode cX10_flakyOf 5 = .ok (.aload_n 0, 1) := by decide +kernel
theorem dX10_flakyOf_6 : decode cX10_flakyOf 6 = .ok (.getfield 96, 3) := by decide +kernel
theorem dX10_flakyOf_9 : decode cX10_flakyOf 9 = .ok (.iload_n 1, 1) := by decide +kernel
theorem dX10_flakyOf_10 : decode cX10_flakyOf 10 = .ok (.iaload, 1) := by decide +kernel
theorem dX10_flakyOf_11 : decode cX10_flakyOf 11 = .ok (.if_icmp .ge 38, 3) := by decide +kernel
theorem dX10_flakyOf_14 : decode cX10_flakyOf 14 = .ok (.iload_n 2, 1) := by decide +kernel
theorem dX10_flakyOf_15 : decode cX10_flakyOf 15 = .ok (.aload_n 0, 1) := by decide +kernel
theorem dX10_flakyOf_16 : decode cX10_flakyOf 16 = .ok (.getfield 93, 3) := by decide +kernel
theorem dX10_flakyOf_19 : decode cX10_flakyOf 19 = .ok (.iload_n 1, 1) := by decide +kernel
theorem dX10_flakyOf_20 : decode cX10_flakyOf 20 = .ok (.aaload, 1) := by decide +kernel
theorem dX10_flakyOf_21 : decode cX10_flakyOf 21 = .ok (.iload_n 3, 1) := by decide +kernel
theorem dX10_flakyOf_22 : decode cX10_flakyOf 22 = .ok (.baload, 1) := by decide +kernel
theorem dX10_flakyOf_23 : decode cX10_flakyOf 23 = .ok (.aload_n 0, 1) := by decide +kernel
theorem dX10_flakyOf_24 : decode cX10_flakyOf 24 = .ok (.getfield 93, 3) := by decide +kernel
theorem dX10_flakyOf_27 : decode cX10_flakyOf 27 = .ok (.iload_n 1, 1) := by decide +kernel
theorem dX10_flakyOf_28 : decode cX10_flakyOf 28 = .ok (.aaload, 1) := by decide +kernel
theorem dX10_flakyOf_29 : decode cX10_flakyOf 29 = .ok (.iload_n 3, 1) := by decide +kernel
theorem dX10_flakyOf_30 : decode cX10_flakyOf 30 = .ok (.iconst 1, 1) := by decide +kernel
theorem dX10_flakyOf_31 : decode cX10_flakyOf 31 = .ok (.isub, 1) := by decide +kernel
theorem dX10_flakyOf_32 : decode cX10_flakyOf 32 = .ok (.baload, 1) := by decide +kernel
theorem dX10_flakyOf_33 : decode cX10_flakyOf 33 = .ok (.if_icmp .eq 7, 3) := by decide +kernel
theorem dX10_flakyOf_36 : decode cX10_flakyOf 36 = .ok (.iconst 1, 1) := by decide +kernel
theorem dX10_flakyOf_37 : decode cX10_flakyOf 37 = .ok (.goto 4, 3) := by decide +kernel
theorem dX10_flakyOf_40 : decode cX10_flakyOf 40 = .ok (.iconst 0, 1) := by decide +kernel
theorem dX10_flakyOf_41 : decode cX10_flakyOf 41 = .ok (.iadd, 1) := by decide +kernel
theorem dX10_flakyOf_42 : decode cX10_flakyOf 42 = .ok (.istore_n 2, 1) := by decide +kernel
theorem dX10_flakyOf_43 : decode cX10_flakyOf 43 = .ok (.iinc 3 1, 3) := by decide +kernel
theorem dX10_flakyOf_46 : decode cX10_flakyOf 46 = .ok (.goto (-42), 3) := by decide +kernel
theorem dX10_flakyOf_49 : decode cX10_flakyOf 49 = .ok (.iload_n 2, 1) := by decide +kernel
theorem dX10_flakyOf_50 : decode cX10_flakyOf 50 = .ok (.ireturn, 1) := by decide +kernel
theorem dX10_flaky_0 : decode cX10_flaky 0 = .ok (.aload_n 0, 1) := by decide +kernel
theorem dX10_flaky_1 : decode cX10_flaky 1 = .ok (.iload_n 1, 1) := by decide +kernel
theorem dX10_flaky_2 : decode cX10_flaky 2 = .ok (.invokevirtual 174, 3) := by decide +kernel
theorem dX10_flaky_5 : decode cX10_flaky 5 = .ok (.ifCond .eq 7, 3) := by decide +kernel
theorem dX10_flaky_8 : decode cX10_flaky 8 = .ok (.iconst 0, 1) := by decide +kernel
theorem dX10_flaky_9 : decode cX10_flaky 9 = .ok (.goto 8, 3) := by decide +kernel
theorem dX10_flaky_12 : decode cX10_flaky 12 = .ok (.aload_n 0, 1) := by decide +kernel
theorem dX10_flaky_13 : decode cX10_flaky 13 = .ok (.iload_n 1, 1) := by decide +kernel
theorem dX10_flaky_14 : decode cX10_flaky 14 = .ok (.invokevirtual 194, 3) := by decide +kernel
theorem dX10_flaky_17 : decode cX10_flaky 17 = .ok (.ireturn, 1) := by decide +kernel
theorem dX10_flakiest_0 : decode cX10_flakiest 0 = .ok (.aload_n 0, 1) := by decide +kernel
theorem dX10_flakiest_1 : decode cX10_flakiest 1 = .ok (.aload_n 0, 1) := by decide +kernel
theorem dX10_flakiest_2 : decode cX10_flakiest 2 = .ok (.getfield 171, 3) := by decide +kernel
theorem dX10_flakiest_5 : decode cX10_flakiest 5 = .ok (.ifCond .ne 7, 3) := by decide +kernel
theorem dX10_flakiest_8 : decode cX10_flakiest 8 = .ok (.iconst 1, 1) := by decide +kernel
theorem dX10_flakiest_9 : decode cX10_flakiest 9 = .ok (.goto 4, 3) := by decide +kernel
theorem dX10_flakiest_12 : decode cX10_flakiest 12 = .ok (.iconst 0, 1) := by decide +kernel
theorem dX10_flakiest_13 : decode cX10_flakiest 13 = .ok (.putfield 109, 3) := by decide +kernel
theorem dX10_flakiest_16 : decode cX10_flakiest 16 = .ok (.iconst 0, 1) := by decide +kernel
theorem dX10_flakiest_17 : decode cX10_flakiest 17 = .ok (.istore_n 1, 1) := by decide +kernel
theorem dX10_flakiest_18 : decode cX10_flakiest 18 = .ok (.iconst 1, 1) := by decide +kernel
theorem dX10_flakiest_19 : decode cX10_flakiest 19 = .ok (.istore_n 2, 1) := by decide +kernel
theorem dX10_flakiest_20 : decode cX10_flakiest 20 = .ok (.iload_n 2, 1) := by decide +kernel
theorem dX10_flakiest_21 : decode cX10_flakiest 21 = .ok (.aload_n 0, 1) := by decide +kernel
theorem dX10_flakiest_22 : decode cX10_flakiest 22 = .ok (.getfield 171, 3) := by decide +kernel
theorem dX10_flakiest_25 : decode cX10_flakiest 25 = .ok (.if_icmp .ge 28, 3) := by decide +kernel
theorem dX10_flakiest_28 : decode cX10_flakiest 28 = .ok (.aload_n 0, 1) := by decide +kernel
theorem dX10_flakiest_29 : decode cX10_flakiest 29 = .ok (.iload_n 2, 1) := by decide +kernel
theorem dX10_flakiest_30 : decode cX10_flakiest 30 = .ok (.invokevirtual 194, 3) := by decide +kernel
theorem dX10_flakiest_33 : decode cX10_flakiest 33 = .ok (.aload_n 0, 1) := by decide +kernel
theorem dX10_flakiest_34 : decode cX10_flakiest 34 = .ok (.iload_n 1, 1) := by decide +kernel
theorem dX10_flakiest_35 : decode cX10_flakiest 35 = .ok (.invokevirtual 194, 3) := by decide +kernel
theorem dX10_flakiest_38 : decode cX10_flakiest 38 = .ok (.if_icmp .le 7, 3) := by decide +kernel
theorem dX10_flakiest_41 : decode cX10_flakiest 41 = .ok (.iload_n 2, 1) := by decide +kernel
theorem dX10_flakiest_42 : decode cX10_flakiest 42 = .ok (.goto 4, 3) := by decide +kernel
theorem dX10_flakiest_45 : decode cX10_flakiest 45 = .ok (.iload_n 1, 1) := by decide +kernel
theorem dX10_flakiest_46 : decode cX10_flakiest 46 = .ok (.istore_n 1, 1) := by decide +kernel
theorem dX10_flakiest_47 : decode cX10_flakiest 47 = .ok (.iinc 2 1, 3) := by decide +kernel
theorem dX10_flakiest_50 : decode cX10_flakiest 50 = .ok (.goto (-30), 3) := by decide +kernel
theorem dX10_flakiest_53 : decode cX10_flakiest 53 = .ok (.aload_n 0, 1) := by decide +kernel
theorem dX10_flakiest_54 : decode cX10_flakiest 54 = .ok (.getfield 109, 3) := by decide +kernel
theorem dX10_flakiest_57 : decode cX10_flakiest 57 = .ok (.ifCond .le 7, 3) := by decide +kernel
theorem dX10_flakiest_60 : decode cX10_flakiest 60 = .ok (.iconst 0, 1) := by decide +kernel
theorem dX10_flakiest_61 : decode cX10_flakiest 61 = .ok (.goto 4, 3) := by decide +kernel
theorem dX10_flakiest_64 : decode cX10_flakiest 64 = .ok (.iload_n 1, 1) := by decide +kernel
theorem dX10_flakiest_65 : decode cX10_flakiest 65 = .ok (.ireturn, 1) := by decide +kernel
theorem dX10_can_0 : decode cX10_can 0 = .ok (.aload_n 0, 1) := by decide +kernel
theorem dX10_can_1 : decode cX10_can 1 = .ok (.getfield 43, 3) := by decide +kernel
theorem dX10_can_4 : decode cX10_can 4 = .ok (.iload_n 1, 1) := by decide +kernel
theorem dX10_can_5 : decode cX10_can 5 = .ok (.baload, 1) := by decide +kernel
theorem dX10_can_6 : decode cX10_can 6 = .ok (.ifCond .eq 45, 3) := by decide +kernel
theorem dX10_can_9 : decode cX10_can 9 = .ok (.aload_n 0, 1) := by decide +kernel
theorem dX10_can_10 : decode cX10_can 10 = .ok (.getfield 13, 3) := by decide +kernel
theorem dX10_can_13 : decode cX10_can 13 = .ok (.iload_n 1, 1) := by decide +kernel
theorem dX10_can_14 : decode cX10_can 14 = .ok (.iaload, 1) := by decide +kernel
theorem dX10_can_15 : decode cX10_can 15 = .ok (.aload_n 0, 1) := by decide +kernel
theorem dX10_can_16 : decode cX10_can 16 = .ok (.getfield 49, 3) := by decide +kernel
theorem dX10_can_19 : decode cX10_can 19 = .ok (.iload_n 1, 1) := by decide +kernel
theorem dX10_can_20 : decode cX10_can 20 = .ok (.iaload, 1) := by decide +kernel
theorem dX10_can_21 : decode cX10_can 21 = .ok (.if_icmp .ne 30, 3) := by decide +kernel
theorem dX10_can_24 : decode cX10_can 24 = .ok (.aload_n 0, 1) := by decide +kernel
theorem dX10_can_25 : decode cX10_can 25 = .ok (.getfield 16, 3) := by decide +kernel
theorem dX10_can_28 : decode cX10_can 28 = .ok (.iload_n 1, 1) := by decide +kernel
theorem dX10_can_29 : decode cX10_can 29 = .ok (.iaload, 1) := by decide +kernel
theorem dX10_can_30 : decode cX10_can 30 = .ok (.aload_n 0, 1) := by decide +kernel
theorem dX10_can_31 : decode cX10_can 31 = .ok (.getfield 52, 3) := by decide +kernel
theorem dX10_can_34 : decode cX10_can 34 = .ok (.iload_n 1, 1) := by decide +kernel
theorem dX10_can_35 : decode cX10_can 35 = .ok (.iaload, 1) := by decide +kernel
theorem dX10_can_36 : decode cX10_can 36 = .ok (.if_icmp .ne 15, 3) := by decide +kernel
theorem dX10_can_39 : decode cX10_can 39 = .ok (.aload_n 0, 1) := by decide +kernel
theorem dX10_can_40 : decode cX10_can 40 = .ok (.iload_n 1, 1) := by decide +kernel
theorem dX10_can_41 : decode cX10_can 41 = .ok (.invokevirtual 152, 3) := by decide +kernel
theorem dX10_can_44 : decode cX10_can 44 = .ok (.ifCond .eq 7, 3) := by decide +kernel
theorem dX10_can_47 : decode cX10_can 47 = .ok (.iconst 1, 1) := by decide +kernel
theorem dX10_can_48 : decode cX10_can 48 = .ok (.goto 4, 3) := by decide +kernel
theorem dX10_can_51 : decode cX10_can 51 = .ok (.iconst 0, 1) := by decide +kernel
theorem dX10_can_52 : decode cX10_can 52 = .ok (.istore_n 2, 1) := by decide +kernel
theorem dX10_can_53 : decode cX10_can 53 = .ok (.iconst 0, 1) := by decide +kernel
theorem dX10_can_54 : decode cX10_can 54 = .ok (.istore_n 3, 1) := by decide +kernel
theorem dX10_can_55 : decode cX10_can 55 = .ok (.iload_n 3, 1) := by decide +kernel
theorem dX10_can_56 : decode cX10_can 56 = .ok (.bipush 6, 2) := by decide +kernel
theorem dX10_can_58 : decode cX10_can 58 = .ok (.if_icmp .ge 73, 3) := by decide +kernel
theorem dX10_can_61 : decode cX10_can 61 = .ok (.iload_n 2, 1) := by decide +kernel
theorem dX10_can_62 : decode cX10_can 62 = .ok (.ifCond .eq 69, 3) := by decide +kernel
theorem dX10_can_65 : decode cX10_can 65 = .ok (.aload_n 0, 1) := by decide +kernel
theorem dX10_can_66 : decode cX10_can 66 = .ok (.iload_n 3, 1) := by decide +kernel
theorem dX10_can_67 : decode cX10_can 67 = .ok (.invokevirtual 155, 3) := by decide +kernel
theorem dX10_can_70 : decode cX10_can 70 = .ok (.aload_n 0, 1) := by decide +kernel
theorem dX10_can_71 : decode cX10_can 71 = .ok (.getfield 46, 3) := by decide +kernel
theorem dX10_can_74 : decode cX10_can 74 = .ok (.iload_n 1, 1) := by decide +kernel
theorem dX10_can_75 : decode cX10_can 75 = .ok (.aaload, 1) := by decide +kernel
theorem dX10_can_76 : decode cX10_can 76 = .ok (.iload_n 3, 1) := by decide +kernel
theorem dX10_can_77 : decode cX10_can 77 = .ok (.iaload, 1) := by decide +kernel
theorem dX10_can_78 : decode cX10_can 78 = .ok (.if_icmp .ne 45, 3) := by decide +kernel
theorem dX10_can_81 : decode cX10_can 81 = .ok (.aload_n 0, 1) := by decide +kernel
theorem dX10_can_82 : decode cX10_can 82 = .ok (.getfield 21, 3) := by decide +kernel
theorem dX10_can_85 : decode cX10_can 85 = .ok (.iload_n 1, 1) := by decide +kernel
theorem dX10_can_86 : decode cX10_can 86 = .ok (.aaload, 1) := by decide +kernel
theorem dX10_can_87 : decode cX10_can 87 = .ok (.iload_n 3, 1) := by decide +kernel
theorem dX10_can_88 : decode cX10_can 88 = .ok (.iaload, 1) := by decide +kernel
theorem dX10_can_89 : decode cX10_can 89 = .ok (.aload_n 0, 1) := by decide +kernel
theorem dX10_can_90 : decode cX10_can 90 = .ok (.getfield 55, 3) := by decide +kernel
theorem dX10_can_93 : decode cX10_can 93 = .ok (.iload_n 1, 1) := by decide +kernel
theorem dX10_can_94 : decode cX10_can 94 = .ok (.aaload, 1) := by decide +kernel
theorem dX10_can_95 : decode cX10_can 95 = .ok (.iload_n 3, 1) := by decide +kernel
theorem dX10_can_96 : decode cX10_can 96 = .ok (.iaload, 1) := by decide +kernel
theorem dX10_can_97 : decode cX10_can 97 = .ok (.if_icmp .ne 26, 3) := by decide +kernel
theorem dX10_can_100 : decode cX10_can 100 = .ok (.aload_n 0, 1) := by decide +kernel
theorem dX10_can_101 : decode cX10_can 101 = .ok (.getfield 24, 3) := by decide +kernel
theorem dX10_can_104 : decode cX10_can 104 = .ok (.iload_n 1, 1) := by decide +kernel
theorem dX10_can_105 : decode cX10_can 105 = .ok (.aaload, 1) := by decide +kernel
theorem dX10_can_106 : decode cX10_can 106 = .ok (.iload_n 3, 1) := by decide +kernel
theorem dX10_can_107 : decode cX10_can 107 = .ok (.iaload, 1) := by decide +kernel
theorem dX10_can_108 : decode cX10_can 108 = .ok (.aload_n 0, 1) := by decide +kernel
theorem dX10_can_109 : decode cX10_can 109 = .ok (.getfield 58, 3) := by decide +kernel
theorem dX10_can_112 : decode cX10_can 112 = .ok (.iload_n 1, 1) := by decide +kernel
theorem dX10_can_113 : decode cX10_can 113 = .ok (.aaload, 1) := by decide +kernel
theorem dX10_can_114 : decode cX10_can 114 = .ok (.iload_n 3, 1) := by decide +kernel
theorem dX10_can_115 : decode cX10_can 115 = .ok (.iaload, 1) := by decide +kernel
theorem dX10_can_116 : decode cX10_can 116 = .ok (.if_icmp .ne 7, 3) := by decide +kernel
theorem dX10_can_119 : decode cX10_can 119 = .ok (.iconst 1, 1) := by decide +kernel
theorem dX10_can_120 : decode cX10_can 120 = .ok (.goto 4, 3) := by decide +kernel
theorem dX10_can_123 : decode cX10_can 123 = .ok (.iconst 0, 1) := by decide +kernel
theorem dX10_can_124 : decode cX10_can 124 = .ok (.istore_n 2, 1) := by decide +kernel
theorem dX10_can_125 : decode cX10_can 125 = .ok (.iinc 3 1, 3) := by decide +kernel
theorem dX10_can_128 : decode cX10_can 128 = .ok (.goto (-73), 3) := by decide +kernel
theorem dX10_can_131 : decode cX10_can 131 = .ok (.iload_n 2, 1) := by decide +kernel
theorem dX10_can_132 : decode cX10_can 132 = .ok (.ireturn, 1) := by decide +kernel
theorem dX10_canPublish_0 : decode cX10_canPublish 0 = .ok (.aload_n 0, 1) := by decide +kernel
theorem dX10_canPublish_1 : decode cX10_canPublish 1 = .ok (.iload_n 1, 1) := by decide +kernel
theorem dX10_canPublish_2 : decode cX10_canPublish 2 = .ok (.invokevirtual 123, 3) := by decide +kernel
theorem dX10_canPublish_5 : decode cX10_canPublish 5 = .ok (.ifCond .ne 15, 3) := by decide +kernel
theorem dX10_canPublish_8 : decode cX10_canPublish 8 = .ok (.aload_n 0, 1) := by decide +kernel
theorem dX10_canPublish_9 : decode cX10_canPublish 9 = .ok (.iload_n 1, 1) := by decide +kernel
theorem dX10_canPublish_10 : decode cX10_canPublish 10 = .ok (.invokevirtual 197, 3) := by decide +kernel
theorem dX10_canPublish_13 : decode cX10_canPublish 13 = .ok (.ifCond .eq 7, 3) := by decide +kernel
theorem dX10_canPublish_16 : decode cX10_canPublish 16 = .ok (.iconst 1, 1) := by decide +kernel
theorem dX10_canPublish_17 : decode cX10_canPublish 17 = .ok (.goto 4, 3) := by decide +kernel
theorem dX10_canPublish_20 : decode cX10_canPublish 20 = .ok (.iconst 0, 1) := by decide +kernel
theorem dX10_canPublish_21 : decode cX10_canPublish 21 = .ok (.ireturn, 1) := by decide +kernel
theorem dX10_last_0 : decode cX10_last 0 = .ok (.iconst (-1), 1) := by decide +kernel
theorem dX10_last_1 : decode cX10_last 1 = .ok (.istore_n 2, 1) := by decide +kernel
theorem dX10_last_2 : decode cX10_last 2 = .ok (.iconst 0, 1) := by decide +kernel
theorem dX10_last_3 : decode cX10_last 3 = .ok (.istore_n 3, 1) := by decide +kernel
theorem dX10_last_4 : decode cX10_last 4 = .ok (.iload_n 3, 1) := by decide +kernel
theorem dX10_last_5 : decode cX10_last 5 = .ok (.aload_n 0, 1) := by decide +kernel
theorem dX10_last_6 : decode cX10_last 6 = .ok (.getfield 146, 3) := by decide +kernel
theorem dX10_last_9 : decode cX10_last 9 = .ok (.if_icmp .ge 25, 3) := by decide +kernel
theorem dX10_last_12 : decode cX10_last 12 = .ok (.aload_n 0, 1) := by decide +kernel
theorem dX10_last_13 : decode cX10_last 13 = .ok (.getfield 61, 3) := by decide +kernel
theorem dX10_last_16 : decode cX10_last 16 = .ok (.iload_n 3, 1) := by decide +kernel
theorem dX10_last_17 : decode cX10_last 17 = .ok (.iaload, 1) := by decide +kernel
theorem dX10_last_18 : decode cX10_last 18 = .ok (.iload_n 1, 1) := by decide +kernel
theorem dX10_last_19 : decode cX10_last 19 = .ok (.if_icmp .ne 7, 3) := by decide +kernel
theorem dX10_last_22 : decode cX10_last 22 = .ok (.iload_n 3, 1) := by decide +kernel
theorem dX10_last_23 : decode cX10_last 23 = .ok (.goto 4, 3) := by decide +kernel
theorem dX10_last_26 : decode cX10_last 26 = .ok (.iload_n 2, 1) := by decide +kernel
theorem dX10_last_27 : decode cX10_last 27 = .ok (.istore_n 2, 1) := by decide +kernel
theorem dX10_last_28 : decode cX10_last 28 = .ok (.iinc 3 1, 3) := by decide +kernel
theorem dX10_last_31 : decode cX10_last 31 = .ok (.goto (-27), 3) := by decide +kernel
theorem dX10_last_34 : decode cX10_last 34 = .ok (.iload_n 2, 1) := by decide +kernel
theorem dX10_last_35 : decode cX10_last 35 = .ok (.ireturn, 1) := by decide +kernel
theorem dX10_next_0 : decode cX10_next 0 = .ok (.aload_n 0, 1) := by decide +kernel
theorem dX10_next_1 : decode cX10_next 1 = .ok (.iload_n 1, 1) := by decide +kernel
theorem dX10_next_2 : decode cX10_next 2 = .ok (.invokevirtual 200, 3) := by decide +kernel
theorem dX10_next_5 : decode cX10_next 5 = .ok (.istore_n 2, 1) := by decide +kernel
theorem dX10_next_6 : decode cX10_next 6 = .ok (.iload_n 2, 1) := by decide +kernel
theorem dX10_next_7 : decode cX10_next 7 = .ok (.iconst (-1), 1) := by decide +kernel
theorem dX10_next_8 : decode cX10_next 8 = .ok (.if_icmp .ne 6, 3) := by decide +kernel
theorem dX10_next_11 : decode cX10_next 11 = .ok (.bipush 100, 2) := by decide +kernel
theorem dX10_next_13 : decode cX10_next 13 = .ok (.ireturn, 1) := by decide +kernel
theorem dX10_next_14 : decode cX10_next 14 = .ok (.aload_n 0, 1) := by decide +kernel
theorem dX10_next_15 : decode cX10_next 15 = .ok (.getfield 64, 3) := by decide +kernel
theorem dX10_next_18 : decode cX10_next 18 = .ok (.iload_n 2, 1) := by decide +kernel
theorem dX10_next_19 : decode cX10_next 19 = .ok (.iaload, 1) := by decide +kernel
theorem dX10_next_20 : decode cX10_next 20 = .ok (.istore_n 3, 1) := by decide +kernel
theorem dX10_next_21 : decode cX10_next 21 = .ok (.aload_n 0, 1) := by decide +kernel
theorem dX10_next_22 : decode cX10_next 22 = .ok (.getfield 67, 3) := by decide +kernel
theorem dX10_next_25 : decode cX10_next 25 = .ok (.iload_n 2, 1) := by decide +kernel
theorem dX10_next_26 : decode cX10_next 26 = .ok (.iaload, 1) := by decide +kernel
theorem dX10_next_27 : decode cX10_next 27 = .ok (.aload_n 0, 1) := by decide +kernel
theorem dX10_next_28 : decode cX10_next 28 = .ok (.getfield 13, 3) := by decide +kernel
theorem dX10_next_31 : decode cX10_next 31 = .ok (.iload_n 1, 1) := by decide +kernel
theorem dX10_next_32 : decode cX10_next 32 = .ok (.iaload, 1) := by decide +kernel
theorem dX10_next_33 : decode cX10_next 33 = .ok (.if_icmp .eq 16, 3) := by decide +kernel
theorem dX10_next_36 : decode cX10_next 36 = .ok (.iload_n 3, 1) := by decide +kernel
theorem dX10_next_37 : decode cX10_next 37 = .ok (.bipush 100, 2) := by decide +kernel
theorem dX10_next_39 : decode cX10_next 39 = .ok (.idiv, 1) := by decide +kernel
theorem dX10_next_40 : decode cX10_next 40 = .ok (.bipush 100, 2) := by decide +kernel
theorem dX10_next_42 : decode cX10_next 42 = .ok (.imul, 1) := by decide +kernel
theorem dX10_next_43 : decode cX10_next 43 = .ok (.bipush 100, 2) := by decide +kernel
theorem dX10_next_45 : decode cX10_next 45 = .ok (.iadd, 1) := by decide +kernel
theorem dX10_next_46 : decode cX10_next 46 = .ok (.goto 6, 3) := by decide +kernel
theorem dX10_next_49 : decode cX10_next 49 = .ok (.iload_n 3, 1) := by decide +kernel
theorem dX10_next_50 : decode cX10_next 50 = .ok (.iconst 1, 1) := by decide +kernel
theorem dX10_next_51 : decode cX10_next 51 = .ok (.iadd, 1) := by decide +kernel
theorem dX10_next_52 : decode cX10_next 52 = .ok (.ireturn, 1) := by decide +kernel
theorem dX10_nextVersion_0 : decode cX10_nextVersion 0 = .ok (.aload_n 0, 1) := by decide +kernel
theorem dX10_nextVersion_1 : decode cX10_nextVersion 1 = .ok (.iload_n 1, 1) := by decide +kernel
theorem dX10_nextVersion_2 : decode cX10_nextVersion 2 = .ok (.invokevirtual 123, 3) := by decide +kernel
theorem dX10_nextVersion_5 : decode cX10_nextVersion 5 = .ok (.ifCond .eq 7, 3) := by decide +kernel
theorem dX10_nextVersion_8 : decode cX10_nextVersion 8 = .ok (.iconst 0, 1) := by decide +kernel
theorem dX10_nextVersion_9 : decode cX10_nextVersion 9 = .ok (.goto 8, 3) := by decide +kernel
theorem dX10_nextVersion_12 : decode cX10_nextVersion 12 = .ok (.aload_n 0, 1) := by decide +kernel
theorem dX10_nextVersion_13 : decode cX10_nextVersion 13 = .ok (.iload_n 1, 1) := by decide +kernel
theorem dX10_nextVersion_14 : decode cX10_nextVersion 14 = .ok (.invokevirtual 203, 3) := by decide +kernel
theorem dX10_nextVersion_17 : decode cX10_nextVersion 17 = .ok (.ireturn, 1) := by decide +kernel
theorem dX10_publish_0 : decode cX10_publish 0 = .ok (.aload_n 0, 1) := by decide +kernel
theorem dX10_publish_1 : decode cX10_publish 1 = .ok (.iload_n 1, 1) := by decide +kernel
theorem dX10_publish_2 : decode cX10_publish 2 = .ok (.invokevirtual 123, 3) := by decide +kernel
theorem dX10_publish_5 : decode cX10_publish 5 = .ok (.ifCond .eq 5, 3) := by decide +kernel
theorem dX10_publish_8 : decode cX10_publish 8 = .ok (.iconst 0, 1) := by decide +kernel
theorem dX10_publish_9 : decode cX10_publish 9 = .ok (.ireturn, 1) := by decide +kernel
theorem dX10_publish_10 : decode cX10_publish 10 = .ok (.aload_n 0, 1) := by decide +kernel
theorem dX10_publish_11 : decode cX10_publish 11 = .ok (.aload_n 0, 1) := by decide +kernel
theorem dX10_publish_12 : decode cX10_publish 12 = .ok (.iload_n 1, 1) := by decide +kernel
theorem dX10_publish_13 : decode cX10_publish 13 = .ok (.invokevirtual 197, 3) := by decide +kernel
theorem dX10_publish_16 : decode cX10_publish 16 = .ok (.ifCond .eq 14, 3) := by decide +kernel
theorem dX10_publish_19 : decode cX10_publish 19 = .ok (.aload_n 0, 1) := by decide +kernel
theorem dX10_publish_20 : decode cX10_publish 20 = .ok (.iload_n 1, 1) := by decide +kernel
theorem dX10_publish_21 : decode cX10_publish 21 = .ok (.invokevirtual 203, 3) := by decide +kernel
theorem dX10_publish_24 : decode cX10_publish 24 = .ok (.sipush 999, 3) := by decide +kernel
theorem dX10_publish_27 : decode cX10_publish 27 = .ok (.if_icmp .le 7, 3) := by decide +kernel
theorem dX10_publish_30 : decode cX10_publish 30 = .ok (.iconst 2, 1) := by decide +kernel
theorem dX10_publish_31 : decode cX10_publish 31 = .ok (.goto 17, 3) := by decide +kernel
theorem dX10_publish_34 : decode cX10_publish 34 = .ok (.aload_n 0, 1) := by decide +kernel
theorem dX10_publish_35 : decode cX10_publish 35 = .ok (.getfield 146, 3) := by decide +kernel
theorem dX10_publish_38 : decode cX10_publish 38 = .ok (.bipush 20, 2) := by decide +kernel
theorem dX10_publish_40 : decode cX10_publish 40 = .ok (.if_icmp .ne 7, 3) := by decide +kernel
theorem dX10_publish_43 : decode cX10_publish 43 = .ok (.iconst 3, 1) := by decide +kernel
theorem dX10_publish_44 : decode cX10_publish 44 = .ok (.goto 4, 3) := by decide +kernel
theorem dX10_publish_47 : decode cX10_publish 47 = .ok (.iconst 0, 1) := by decide +kernel
theorem dX10_publish_48 : decode cX10_publish 48 = .ok (.putfield 109, 3) := by decide +kernel
theorem dX10_publish_51 : decode cX10_publish 51 = .ok (.aload_n 0, 1) := by decide +kernel
theorem dX10_publish_52 : decode cX10_publish 52 = .ok (.getfield 109, 3) := by decide +kernel
theorem dX10_publish_55 : decode cX10_publish 55 = .ok (.ifCond .le 5, 3) := by decide +kernel
theorem dX10_publish_58 : decode cX10_publish 58 = .ok (.iconst 0, 1) := by decide +kernel
theorem dX10_publish_59 : decode cX10_publish 59 = .ok (.ireturn, 1) := by decide +kernel
theorem dX10_publish_60 : decode cX10_publish 60 = .ok (.aload_n 0, 1) := by decide +kernel
theorem dX10_publish_61 : decode cX10_publish 61 = .ok (.iload_n 1, 1) := by decide +kernel
theorem dX10_publish_62 : decode cX10_publish 62 = .ok (.invokevirtual 203, 3) := by decide +kernel
theorem dX10_publish_65 : decode cX10_publish 65 = .ok (.istore_n 2, 1) := by decide +kernel
theorem dX10_publish_66 : decode cX10_publish 66 = .ok (.aload_n 0, 1) := by decide +kernel
theorem dX10_publish_67 : decode cX10_publish 67 = .ok (.getfield 61, 3) := by decide +kernel
theorem dX10_publish_70 : decode cX10_publish 70 = .ok (.aload_n 0, 1) := by decide +kernel
theorem dX10_publish_71 : decode cX10_publish 71 = .ok (.getfield 146, 3) := by decide +kernel
theorem dX10_publish_74 : decode cX10_publish 74 = .ok (.iload_n 1, 1) := by decide +kernel
theorem dX10_publish_75 : decode cX10_publish 75 = .ok (.iastore, 1) := by decide +kernel
theorem dX10_publish_76 : decode cX10_publish 76 = .ok (.aload_n 0, 1) := by decide +kernel
theorem dX10_publish_77 : decode cX10_publish 77 = .ok (.getfield 64, 3) := by decide +kernel
theorem dX10_publish_80 : decode cX10_publish 80 = .ok (.aload_n 0, 1) := by decide +kernel
theorem dX10_publish_81 : decode cX10_publish 81 = .ok (.getfield 146, 3) := by decide +kernel
theorem dX10_publish_84 : decode cX10_publish 84 = .ok (.iload_n 2, 1) := by decide +kernel
theorem dX10_publish_85 : decode cX10_publish 85 = .ok (.iastore, 1) := by decide +kernel
theorem dX10_publish_86 : decode cX10_publish 86 = .ok (.aload_n 0, 1) := by decide +kernel
theorem dX10_publish_87 : decode cX10_publish 87 = .ok (.getfield 67, 3) := by decide +kernel
theorem dX10_publish_90 : decode cX10_publish 90 = .ok (.aload_n 0, 1) := by decide +kernel
theorem dX10_publish_91 : decode cX10_publish 91 = .ok (.getfield 146, 3) := by decide +kernel
theorem dX10_publish_94 : decode cX10_publish 94 = .ok (.aload_n 0, 1) := by decide +kernel
theorem dX10_publish_95 : decode cX10_publish 95 = .ok (.getfield 13, 3) := by decide +kernel
theorem dX10_publish_98 : decode cX10_publish 98 = .ok (.iload_n 1, 1) := by decide +kernel
theorem dX10_publish_99 : decode cX10_publish 99 = .ok (.iaload, 1) := by decide +kernel
theorem dX10_publish_100 : decode cX10_publish 100 = .ok (.iastore, 1) := by decide +kernel
theorem dX10_publish_101 : decode cX10_publish 101 = .ok (.iconst 0, 1) := by decide +kernel
theorem dX10_publish_102 : decode cX10_publish 102 = .ok (.istore_n 3, 1) := by decide +kernel
theorem dX10_publish_103 : decode cX10_publish 103 = .ok (.iload_n 3, 1) := by decide +kernel
theorem dX10_publish_104 : decode cX10_publish 104 = .ok (.bipush 6, 2) := by decide +kernel
theorem dX10_publish_106 : decode cX10_publish 106 = .ok (.if_icmp .ge 63, 3) := by decide +kernel
theorem dX10_publish_109 : decode cX10_publish 109 = .ok (.aload_n 0, 1) := by decide +kernel
theorem dX10_publish_110 : decode cX10_publish 110 = .ok (.getfield 70, 3) := by decide +kernel
theorem dX10_publish_113 : decode cX10_publish 113 = .ok (.aload_n 0, 1) := by decide +kernel
theorem dX10_publish_114 : decode cX10_publish 114 = .ok (.getfield 146, 3) := by decide +kernel
theorem dX10_publish_117 : decode cX10_publish 117 = .ok (.aaload, 1) := by decide +kernel
theorem dX10_publish_118 : decode cX10_publish 118 = .ok (.iload_n 3, 1) := by decide +kernel
theorem dX10_publish_119 : decode cX10_publish 119 = .ok (.aload_n 0, 1) := by decide +kernel
theorem dX10_publish_120 : decode cX10_publish 120 = .ok (.getfield 21, 3) := by decide +kernel
theorem dX10_publish_123 : decode cX10_publish 123 = .ok (.iload_n 1, 1) := by decide +kernel
theorem dX10_publish_124 : decode cX10_publish 124 = .ok (.aaload, 1) := by decide +kernel
theorem dX10_publish_125 : decode cX10_publish 125 = .ok (.iload_n 3, 1) := by decide +kernel
theorem dX10_publish_126 : decode cX10_publish 126 = .ok (.iaload, 1) := by decide +kernel
theorem dX10_publish_127 : decode cX10_publish 127 = .ok (.iastore, 1) := by decide +kernel
theorem dX10_publish_128 : decode cX10_publish 128 = .ok (.aload_n 0, 1) := by decide +kernel
theorem dX10_publish_129 : decode cX10_publish 129 = .ok (.getfield 73, 3) := by decide +kernel
theorem dX10_publish_132 : decode cX10_publish 132 = .ok (.aload_n 0, 1) := by decide +kernel
theorem dX10_publish_133 : decode cX10_publish 133 = .ok (.getfield 146, 3) := by decide +kernel
theorem dX10_publish_136 : decode cX10_publish 136 = .ok (.aaload, 1) := by decide +kernel
theorem dX10_publish_137 : decode cX10_publish 137 = .ok (.iload_n 3, 1) := by decide +kernel
theorem dX10_publish_138 : decode cX10_publish 138 = .ok (.aload_n 0, 1) := by decide +kernel
theorem dX10_publish_139 : decode cX10_publish 139 = .ok (.getfield 24, 3) := by decide +kernel
theorem dX10_publish_142 : decode cX10_publish 142 = .ok (.iload_n 1, 1) := by decide +kernel
theorem dX10_publish_143 : decode cX10_publish 143 = .ok (.aaload, 1) := by decide +kernel
theorem dX10_publish_144 : decode cX10_publish 144 = .ok (.iload_n 3, 1) := by decide +kernel
theorem dX10_publish_145 : decode cX10_publish 145 = .ok (.iaload, 1) := by decide +kernel
theorem dX10_publish_146 : decode cX10_publish 146 = .ok (.iastore, 1) := by decide +kernel
theorem dX10_publish_147 : decode cX10_publish 147 = .ok (.aload_n 0, 1) := by decide +kernel
theorem dX10_publish_148 : decode cX10_publish 148 = .ok (.getfield 76, 3) := by decide +kernel
theorem dX10_publish_151 : decode cX10_publish 151 = .ok (.aload_n 0, 1) := by decide +kernel
theorem dX10_publish_152 : decode cX10_publish 152 = .ok (.getfield 146, 3) := by decide +kernel
theorem dX10_publish_155 : decode cX10_publish 155 = .ok (.aaload, 1) := by decide +kernel
theorem dX10_publish_156 : decode cX10_publish 156 = .ok (.iload_n 3, 1) := by decide +kernel
theorem dX10_publish_157 : decode cX10_publish 157 = .ok (.aload_n 0, 1) := by decide +kernel
theorem dX10_publish_158 : decode cX10_publish 158 = .ok (.iload_n 3, 1) := by decide +kernel
theorem dX10_publish_159 : decode cX10_publish 159 = .ok (.invokevirtual 155, 3) := by decide +kernel
theorem dX10_publish_162 : decode cX10_publish 162 = .ok (.iastore, 1) := by decide +kernel
theorem dX10_publish_163 : decode cX10_publish 163 = .ok (.iinc 3 1, 3) := by decide +kernel
theorem dX10_publish_166 : decode cX10_publish 166 = .ok (.goto (-63), 3) := by decide +kernel
theorem dX10_publish_169 : decode cX10_publish 169 = .ok (.aload_n 0, 1) := by decide +kernel
theorem dX10_publish_170 : decode cX10_publish 170 = .ok (.dup, 1) := by decide +kernel
theorem dX10_publish_171 : decode cX10_publish 171 = .ok (.getfield 146, 3) := by decide +kernel
theorem dX10_publish_174 : decode cX10_publish 174 = .ok (.iconst 1, 1) := by decide +kernel
theorem dX10_publish_175 : decode cX10_publish 175 = .ok (.iadd, 1) := by decide +kernel
theorem dX10_publish_176 : decode cX10_publish 176 = .ok (.putfield 146, 3) := by decide +kernel
theorem dX10_publish_179 : decode cX10_publish 179 = .ok (.iload_n 2, 1) := by decide +kernel
theorem dX10_publish_180 : decode cX10_publish 180 = .ok (.ireturn, 1) := by decide +kernel
theorem dX10_find_0 : decode cX10_find 0 = .ok (.iconst 0, 1) := by decide +kernel
theorem dX10_find_1 : decode cX10_find 1 = .ok (.istore_n 3, 1) := by decide +kernel
theorem dX10_find_2 : decode cX10_find 2 = .ok (.iload_n 3, 1) := by decide +kernel
theorem dX10_find_3 : decode cX10_find 3 = .ok (.aload_n 0, 1) := by decide +kernel
theorem dX10_find_4 : decode cX10_find 4 = .ok (.getfield 146, 3) := by decide +kernel
theorem dX10_find_7 : decode cX10_find 7 = .ok (.if_icmp .ge 31, 3) := by decide +kernel
theorem dX10_find_10 : decode cX10_find 10 = .ok (.aload_n 0, 1) := by decide +kernel
theorem dX10_find_11 : decode cX10_find 11 = .ok (.getfield 61, 3) := by decide +kernel
theorem dX10_find_14 : decode cX10_find 14 = .ok (.iload_n 3, 1) := by decide +kernel
theorem dX10_find_15 : decode cX10_find 15 = .ok (.iaload, 1) := by decide +kernel
theorem dX10_find_16 : decode cX10_find 16 = .ok (.iload_n 1, 1) := by decide +kernel
theorem dX10_find_17 : decode cX10_find 17 = .ok (.if_icmp .ne 15, 3) := by decide +kernel
theorem dX10_find_20 : decode cX10_find 20 = .ok (.aload_n 0, 1) := by decide +kernel
theorem dX10_find_21 : decode cX10_find 21 = .ok (.getfield 64, 3) := by decide +kernel
theorem dX10_find_24 : decode cX10_find 24 = .ok (.iload_n 3, 1) := by decide +kernel
theorem dX10_find_25 : decode cX10_find 25 = .ok (.iaload, 1) := by decide +kernel
theorem dX10_find_26 : decode cX10_find 26 = .ok (.iload_n 2, 1) := by decide +kernel
theorem dX10_find_27 : decode cX10_find 27 = .ok (.if_icmp .ne 5, 3) := by decide +kernel
theorem dX10_find_30 : decode cX10_find 30 = .ok (.iload_n 3, 1) := by decide +kernel
theorem dX10_find_31 : decode cX10_find 31 = .ok (.ireturn, 1) := by decide +kernel
theorem dX10_find_32 : decode cX10_find 32 = .ok (.iinc 3 1, 3) := by decide +kernel
theorem dX10_find_35 : decode cX10_find 35 = .ok (.goto (-33), 3) := by decide +kernel
theorem dX10_find_38 : decode cX10_find 38 = .ok (.iconst (-1), 1) := by decide +kernel
theorem dX10_find_39 : decode cX10_find 39 = .ok (.ireturn, 1) := by decide +kernel
theorem dX10_stale_0 : decode cX10_stale 0 = .ok (.iconst 0, 1) := by decide +kernel
theorem dX10_stale_1 : decode cX10_stale 1 = .ok (.istore_n 2, 1) := by decide +kernel
theorem dX10_stale_2 : decode cX10_stale 2 = .ok (.iconst 0, 1) := by decide +kernel
theorem dX10_stale_3 : decode cX10_stale 3 = .ok (.istore_n 3, 1) := by decide +kernel
theorem dX10_stale_4 : decode cX10_stale 4 = .ok (.iload_n 3, 1) := by decide +kernel
theorem dX10_stale_5 : decode cX10_stale 5 = .ok (.bipush 6, 2) := by decide +kernel
theorem dX10_stale_7 : decode cX10_stale 7 = .ok (.if_icmp .ge 65, 3) := by decide +kernel
theorem dX10_stale_10 : decode cX10_stale 10 = .ok (.aload_n 0, 1) := by decide +kernel
theorem dX10_stale_11 : decode cX10_stale 11 = .ok (.getfield 76, 3) := by decide +kernel
theorem dX10_stale_14 : decode cX10_stale 14 = .ok (.iload_n 1, 1) := by decide +kernel
theorem dX10_stale_15 : decode cX10_stale 15 = .ok (.aaload, 1) := by decide +kernel
theorem dX10_stale_16 : decode cX10_stale 16 = .ok (.iload_n 3, 1) := by decide +kernel
theorem dX10_stale_17 : decode cX10_stale 17 = .ok (.iaload, 1) := by decide +kernel
theorem dX10_stale_18 : decode cX10_stale 18 = .ok (.ifCond .ne 7, 3) := by decide +kernel
theorem dX10_stale_21 : decode cX10_stale 21 = .ok (.iconst (-1), 1) := by decide +kernel
theorem dX10_stale_22 : decode cX10_stale 22 = .ok (.goto 16, 3) := by decide +kernel
theorem dX10_stale_25 : decode cX10_stale 25 = .ok (.aload_n 0, 1) := by decide +kernel
theorem dX10_stale_26 : decode cX10_stale 26 = .ok (.iload_n 3, 1) := by decide +kernel
theorem dX10_stale_27 : decode cX10_stale 27 = .ok (.aload_n 0, 1) := by decide +kernel
theorem dX10_stale_28 : decode cX10_stale 28 = .ok (.getfield 76, 3) := by decide +kernel
theorem dX10_stale_31 : decode cX10_stale 31 = .ok (.iload_n 1, 1) := by decide +kernel
theorem dX10_stale_32 : decode cX10_stale 32 = .ok (.aaload, 1) := by decide +kernel
theorem dX10_stale_33 : decode cX10_stale 33 = .ok (.iload_n 3, 1) := by decide +kernel
theorem dX10_stale_34 : decode cX10_stale 34 = .ok (.iaload, 1) := by decide +kernel
theorem dX10_stale_35 : decode cX10_stale 35 = .ok (.invokevirtual 206, 3) := by decide +kernel
theorem dX10_stale_38 : decode cX10_stale 38 = .ok (.istore 4, 2) := by decide +kernel
theorem dX10_stale_40 : decode cX10_stale 40 = .ok (.iload_n 2, 1) := by decide +kernel
theorem dX10_stale_41 : decode cX10_stale 41 = .ok (.ifCond .ne 19, 3) := by decide +kernel
theorem dX10_stale_44 : decode cX10_stale 44 = .ok (.iload 4, 2) := by decide +kernel
theorem dX10_stale_46 : decode cX10_stale 46 = .ok (.iconst (-1), 1) := by decide +kernel
theorem dX10_stale_47 : decode cX10_stale 47 = .ok (.if_icmp .eq 17, 3) := by decide +kernel
theorem dX10_stale_50 : decode cX10_stale 50 = .ok (.aload_n 0, 1) := by decide +kernel
theorem dX10_stale_51 : decode cX10_stale 51 = .ok (.getfield 79, 3) := by decide +kernel
theorem dX10_stale_54 : decode cX10_stale 54 = .ok (.iload 4, 2) := by decide +kernel
theorem dX10_stale_56 : decode cX10_stale 56 = .ok (.baload, 1) := by decide +kernel
theorem dX10_stale_57 : decode cX10_stale 57 = .ok (.ifCond .eq 7, 3) := by decide +kernel
theorem dX10_stale_60 : decode cX10_stale 60 = .ok (.iconst 1, 1) := by decide +kernel
theorem dX10_stale_61 : decode cX10_stale 61 = .ok (.goto 4, 3) := by decide +kernel
theorem dX10_stale_64 : decode cX10_stale 64 = .ok (.iconst 0, 1) := by decide +kernel
theorem dX10_stale_65 : decode cX10_stale 65 = .ok (.istore_n 2, 1) := by decide +kernel
theorem dX10_stale_66 : decode cX10_stale 66 = .ok (.iinc 3 1, 3) := by decide +kernel
theorem dX10_stale_69 : decode cX10_stale 69 = .ok (.goto (-65), 3) := by decide +kernel
theorem dX10_stale_72 : decode cX10_stale 72 = .ok (.iload_n 2, 1) := by decide +kernel
theorem dX10_stale_73 : decode cX10_stale 73 = .ok (.ifCond .eq 16, 3) := by decide +kernel
theorem dX10_stale_76 : decode cX10_stale 76 = .ok (.aload_n 0, 1) := by decide +kernel
theorem dX10_stale_77 : decode cX10_stale 77 = .ok (.getfield 79, 3) := by decide +kernel
theorem dX10_stale_80 : decode cX10_stale 80 = .ok (.iload_n 1, 1) := by decide +kernel
theorem dX10_stale_81 : decode cX10_stale 81 = .ok (.baload, 1) := by decide +kernel
theorem dX10_stale_82 : decode cX10_stale 82 = .ok (.ifCond .ne 7, 3) := by decide +kernel
theorem dX10_stale_85 : decode cX10_stale 85 = .ok (.iconst 1, 1) := by decide +kernel
theorem dX10_stale_86 : decode cX10_stale 86 = .ok (.goto 4, 3) := by decide +kernel
theorem dX10_stale_89 : decode cX10_stale 89 = .ok (.iconst 0, 1) := by decide +kernel
theorem dX10_stale_90 : decode cX10_stale 90 = .ok (.ireturn, 1) := by decide +kernel
theorem dX10_yank_0 : decode cX10_yank 0 = .ok (.aload_n 0, 1) := by decide +kernel
theorem dX10_yank_1 : decode cX10_yank 1 = .ok (.iload_n 1, 1) := by decide +kernel
theorem dX10_yank_2 : decode cX10_yank 2 = .ok (.invokevirtual 123, 3) := by decide +kernel
theorem dX10_yank_5 : decode cX10_yank 5 = .ok (.ifCond .eq 5, 3) := by decide +kernel
theorem dX10_yank_8 : decode cX10_yank 8 = .ok (.iconst 0, 1) := by decide +kernel
theorem dX10_yank_9 : decode cX10_yank 9 = .ok (.ireturn, 1) := by decide +kernel
theorem dX10_yank_10 : decode cX10_yank 10 = .ok (.aload_n 0, 1) := by decide +kernel
theorem dX10_yank_11 : decode cX10_yank 11 = .ok (.iload_n 1, 1) := by decide +kernel
theorem dX10_yank_12 : decode cX10_yank 12 = .ok (.iload_n 2, 1) := by decide +kernel
theorem dX10_yank_13 : decode cX10_yank 13 = .ok (.invokevirtual 206, 3) := by decide +kernel
theorem dX10_yank_16 : decode cX10_yank 16 = .ok (.istore_n 3, 1) := by decide +kernel
theorem dX10_yank_17 : decode cX10_yank 17 = .ok (.aload_n 0, 1) := by decide +kernel
theorem dX10_yank_18 : decode cX10_yank 18 = .ok (.iload_n 3, 1) := by decide +kernel
theorem dX10_yank_19 : decode cX10_yank 19 = .ok (.iconst (-1), 1) := by decide +kernel
theorem dX10_yank_20 : decode cX10_yank 20 = .ok (.if_icmp .ne 7, 3) := by decide +kernel
theorem dX10_yank_23 : decode cX10_yank 23 = .ok (.iconst 2, 1) := by decide +kernel
theorem dX10_yank_24 : decode cX10_yank 24 = .ok (.goto 17, 3) := by decide +kernel
theorem dX10_yank_27 : decode cX10_yank 27 = .ok (.aload_n 0, 1) := by decide +kernel
theorem dX10_yank_28 : decode cX10_yank 28 = .ok (.getfield 79, 3) := by decide +kernel
theorem dX10_yank_31 : decode cX10_yank 31 = .ok (.iload_n 3, 1) := by decide +kernel
theorem dX10_yank_32 : decode cX10_yank 32 = .ok (.baload, 1) := by decide +kernel
theorem dX10_yank_33 : decode cX10_yank 33 = .ok (.ifCond .eq 7, 3) := by decide +kernel
theorem dX10_yank_36 : decode cX10_yank 36 = .ok (.iconst 3, 1) := by decide +kernel
theorem dX10_yank_37 : decode cX10_yank 37 = .ok (.goto 4, 3) := by decide +kernel
theorem dX10_yank_40 : decode cX10_yank 40 = .ok (.iconst 0, 1) := by decide +kernel
theorem dX10_yank_41 : decode cX10_yank 41 = .ok (.putfield 109, 3) := by decide +kernel
theorem dX10_yank_44 : decode cX10_yank 44 = .ok (.aload_n 0, 1) := by decide +kernel
theorem dX10_yank_45 : decode cX10_yank 45 = .ok (.getfield 109, 3) := by decide +kernel
theorem dX10_yank_48 : decode cX10_yank 48 = .ok (.ifCond .le 5, 3) := by decide +kernel
theorem dX10_yank_51 : decode cX10_yank 51 = .ok (.iconst 0, 1) := by decide +kernel
theorem dX10_yank_52 : decode cX10_yank 52 = .ok (.ireturn, 1) := by decide +kernel
theorem dX10_yank_53 : decode cX10_yank 53 = .ok (.aload_n 0, 1) := by decide +kernel
theorem dX10_yank_54 : decode cX10_yank 54 = .ok (.getfield 79, 3) := by decide +kernel
theorem dX10_yank_57 : decode cX10_yank 57 = .ok (.iload_n 3, 1) := by decide +kernel
theorem dX10_yank_58 : decode cX10_yank 58 = .ok (.iconst 1, 1) := by decide +kernel
theorem dX10_yank_59 : decode cX10_yank 59 = .ok (.bastore, 1) := by decide +kernel
theorem dX10_yank_60 : decode cX10_yank 60 = .ok (.iconst 0, 1) := by decide +kernel
theorem dX10_yank_61 : decode cX10_yank 61 = .ok (.istore 4, 2) := by decide +kernel
theorem dX10_yank_63 : decode cX10_yank 63 = .ok (.iconst 0, 1) := by decide +kernel
theorem dX10_yank_64 : decode cX10_yank 64 = .ok (.istore 5, 2) := by decide +kernel
theorem dX10_yank_66 : decode cX10_yank 66 = .ok (.iload 5, 2) := by decide +kernel
theorem dX10_yank_68 : decode cX10_yank 68 = .ok (.aload_n 0, 1) := by decide +kernel
theorem dX10_yank_69 : decode cX10_yank 69 = .ok (.getfield 146, 3) := by decide +kernel
theorem dX10_yank_72 : decode cX10_yank 72 = .ok (.if_icmp .ge 28, 3) := by decide +kernel
theorem dX10_yank_75 : decode cX10_yank 75 = .ok (.iload 4, 2) := by decide +kernel
theorem dX10_yank_77 : decode cX10_yank 77 = .ok (.aload_n 0, 1) := by decide +kernel
theorem dX10_yank_78 : decode cX10_yank 78 = .ok (.iload 5, 2) := by decide +kernel
theorem dX10_yank_80 : decode cX10_yank 80 = .ok (.invokevirtual 209, 3) := by decide +kernel
theorem dX10_yank_83 : decode cX10_yank 83 = .ok (.ifCond .eq 7, 3) := by decide +kernel
theorem dX10_yank_86 : decode cX10_yank 86 = .ok (.iconst 1, 1) := by decide +kernel
theorem dX10_yank_87 : decode cX10_yank 87 = .ok (.goto 4, 3) := by decide +kernel
theorem dX10_yank_90 : decode cX10_yank 90 = .ok (.iconst 0, 1) := by decide +kernel
theorem dX10_yank_91 : decode cX10_yank 91 = .ok (.iadd, 1) := by decide +kernel
theorem dX10_yank_92 : decode cX10_yank 92 = .ok (.istore 4, 2) := by decide +kernel
theorem dX10_yank_94 : decode cX10_yank 94 = .ok (.iinc 5 1, 3) := by decide +kernel
theorem dX10_yank_97 : decode cX10_yank 97 = .ok (.goto (-31), 3) := by decide +kernel
theorem dX10_yank_100 : decode cX10_yank 100 = .ok (.iload 4, 2) := by decide +kernel
theorem dX10_yank_102 : decode cX10_yank 102 = .ok (.ireturn, 1) := by decide +kernel
theorem dX10_isStale_0 : decode cX10_isStale 0 = .ok (.aload_n 0, 1) := by decide +kernel
theorem dX10_isStale_1 : decode cX10_isStale 1 = .ok (.iload_n 1, 1) := by decide +kernel
theorem dX10_isStale_2 : decode cX10_isStale 2 = .ok (.invokevirtual 123, 3) := by decide +kernel
theorem dX10_isStale_5 : decode cX10_isStale 5 = .ok (.ifCond .eq 5, 3) := by decide +kernel
theorem dX10_isStale_8 : decode cX10_isStale 8 = .ok (.iconst 0, 1) := by decide +kernel
theorem dX10_isStale_9 : decode cX10_isStale 9 = .ok (.ireturn, 1) := by decide +kernel
theorem dX10_isStale_10 : decode cX10_isStale 10 = .ok (.aload_n 0, 1) := by decide +kernel
theorem dX10_isStale_11 : decode cX10_isStale 11 = .ok (.iload_n 1, 1) := by decide +kernel
theorem dX10_isStale_12 : decode cX10_isStale 12 = .ok (.iload_n 2, 1) := by decide +kernel
theorem dX10_isStale_13 : decode cX10_isStale 13 = .ok (.invokevirtual 206, 3) := by decide +kernel
theorem dX10_isStale_16 : decode cX10_isStale 16 = .ok (.istore_n 3, 1) := by decide +kernel
theorem dX10_isStale_17 : decode cX10_isStale 17 = .ok (.aload_n 0, 1) := by decide +kernel
theorem dX10_isStale_18 : decode cX10_isStale 18 = .ok (.iload_n 3, 1) := by decide +kernel
theorem dX10_isStale_19 : decode cX10_isStale 19 = .ok (.iconst (-1), 1) := by decide +kernel
theorem dX10_isStale_20 : decode cX10_isStale 20 = .ok (.if_icmp .ne 7, 3) := by decide +kernel
theorem dX10_isStale_23 : decode cX10_isStale 23 = .ok (.iconst 2, 1) := by decide +kernel
theorem dX10_isStale_24 : decode cX10_isStale 24 = .ok (.goto 4, 3) := by decide +kernel
theorem dX10_isStale_27 : decode cX10_isStale 27 = .ok (.iconst 0, 1) := by decide +kernel
theorem dX10_isStale_28 : decode cX10_isStale 28 = .ok (.putfield 109, 3) := by decide +kernel
theorem dX10_isStale_31 : decode cX10_isStale 31 = .ok (.aload_n 0, 1) := by decide +kernel
theorem dX10_isStale_32 : decode cX10_isStale 32 = .ok (.getfield 109, 3) := by decide +kernel
theorem dX10_isStale_35 : decode cX10_isStale 35 = .ok (.ifCond .ne 15, 3) := by decide +kernel
theorem dX10_isStale_38 : decode cX10_isStale 38 = .ok (.aload_n 0, 1) := by decide +kernel
theorem dX10_isStale_39 : decode cX10_isStale 39 = .ok (.iload_n 3, 1) := by decide +kernel
theorem dX10_isStale_40 : decode cX10_isStale 40 = .ok (.invokevirtual 209, 3) := by decide +kernel
theorem dX10_isStale_43 : decode cX10_isStale 43 = .ok (.ifCond .eq 7, 3) := by decide +kernel
theorem dX10_isStale_46 : decode cX10_isStale 46 = .ok (.iconst 1, 1) := by decide +kernel
theorem dX10_isStale_47 : decode cX10_isStale 47 = .ok (.goto 4, 3) := by decide +kernel
theorem dX10_isStale_50 : decode cX10_isStale 50 = .ok (.iconst 0, 1) := by decide +kernel
theorem dX10_isStale_51 : decode cX10_isStale 51 = .ok (.ireturn, 1) := by decide +kernel
theorem dX10_relock_0 : decode cX10_relock 0 = .ok (.aload_n 0, 1) := by decide +kernel
theorem dX10_relock_1 : decode cX10_relock 1 = .ok (.iload_n 1, 1) := by decide +kernel
theorem dX10_relock_2 : decode cX10_relock 2 = .ok (.invokevirtual 123, 3) := by decide +kernel
theorem dX10_relock_5 : decode cX10_relock 5 = .ok (.ifCond .eq 5, 3) := by decide +kernel
theorem dX10_relock_8 : decode cX10_relock 8 = .ok (.iconst 0, 1) := by decide +kernel
theorem dX10_relock_9 : decode cX10_relock 9 = .ok (.ireturn, 1) := by decide +kernel
theorem dX10_relock_10 : decode cX10_relock 10 = .ok (.aload_n 0, 1) := by decide +kernel
theorem dX10_relock_11 : decode cX10_relock 11 = .ok (.iload_n 1, 1) := by decide +kernel
theorem dX10_relock_12 : decode cX10_relock 12 = .ok (.iload_n 2, 1) := by decide +kernel
theorem dX10_relock_13 : decode cX10_relock 13 = .ok (.invokevirtual 206, 3) := by decide +kernel
theorem dX10_relock_16 : decode cX10_relock 16 = .ok (.istore_n 3, 1) := by decide +kernel
theorem dX10_relock_17 : decode cX10_relock 17 = .ok (.aload_n 0, 1) := by decide +kernel
theorem dX10_relock_18 : decode cX10_relock 18 = .ok (.iload_n 3, 1) := by decide +kernel
theorem dX10_relock_19 : decode cX10_relock 19 = .ok (.iconst (-1), 1) := by decide +kernel
theorem dX10_relock_20 : decode cX10_relock 20 = .ok (.if_icmp .ne 7, 3) := by decide +kernel
theorem dX10_relock_23 : decode cX10_relock 23 = .ok (.iconst 2, 1) := by decide +kernel
theorem dX10_relock_24 : decode cX10_relock 24 = .ok (.goto 17, 3) := by decide +kernel
theorem dX10_relock_27 : decode cX10_relock 27 = .ok (.aload_n 0, 1) := by decide +kernel
theorem dX10_relock_28 : decode cX10_relock 28 = .ok (.getfield 79, 3) := by decide +kernel
theorem dX10_relock_31 : decode cX10_relock 31 = .ok (.iload_n 3, 1) := by decide +kernel
theorem dX10_relock_32 : decode cX10_relock 32 = .ok (.baload, 1) := by decide +kernel
theorem dX10_relock_33 : decode cX10_relock 33 = .ok (.ifCond .eq 7, 3) := by decide +kernel
theorem dX10_relock_36 : decode cX10_relock 36 = .ok (.iconst 3, 1) := by decide +kernel
theorem dX10_relock_37 : decode cX10_relock 37 = .ok (.goto 4, 3) := by decide +kernel
theorem dX10_relock_40 : decode cX10_relock 40 = .ok (.iconst 0, 1) := by decide +kernel
theorem dX10_relock_41 : decode cX10_relock 41 = .ok (.putfield 109, 3) := by decide +kernel
theorem dX10_relock_44 : decode cX10_relock 44 = .ok (.aload_n 0, 1) := by decide +kernel
theorem dX10_relock_45 : decode cX10_relock 45 = .ok (.getfield 109, 3) := by decide +kernel
theorem dX10_relock_48 : decode cX10_relock 48 = .ok (.ifCond .le 5, 3) := by decide +kernel
theorem dX10_relock_51 : decode cX10_relock 51 = .ok (.iconst 0, 1) := by decide +kernel
theorem dX10_relock_52 : decode cX10_relock 52 = .ok (.ireturn, 1) := by decide +kernel
theorem dX10_relock_53 : decode cX10_relock 53 = .ok (.iconst 0, 1) := by decide +kernel
theorem dX10_relock_54 : decode cX10_relock 54 = .ok (.istore 4, 2) := by decide +kernel
theorem dX10_relock_56 : decode cX10_relock 56 = .ok (.iload 4, 2) := by decide +kernel
theorem dX10_relock_58 : decode cX10_relock 58 = .ok (.bipush 6, 2) := by decide +kernel
theorem dX10_relock_60 : decode cX10_relock 60 = .ok (.if_icmp .ge 17, 3) := by decide +kernel
theorem dX10_relock_63 : decode cX10_relock 63 = .ok (.aload_n 0, 1) := by decide +kernel
theorem dX10_relock_64 : decode cX10_relock 64 = .ok (.getfield 106, 3) := by decide +kernel
theorem dX10_relock_67 : decode cX10_relock 67 = .ok (.iload 4, 2) := by decide +kernel
theorem dX10_relock_69 : decode cX10_relock 69 = .ok (.iconst (-1), 1) := by decide +kernel
theorem dX10_relock_70 : decode cX10_relock 70 = .ok (.iastore, 1) := by decide +kernel
theorem dX10_relock_71 : decode cX10_relock 71 = .ok (.iinc 4 1, 3) := by decide +kernel
theorem dX10_relock_74 : decode cX10_relock 74 = .ok (.goto (-18), 3) := by decide +kernel
end
section
theorem dX10_relock_77 : decode cX10_relock 77 = .ok (.aload_n 0, 1) := by decide +kernel
theorem dX10_relock_78 : decode cX10_relock 78 = .ok (.iconst 5, 1) := by decide +kernel
theorem dX10_relock_79 : decode cX10_relock 79 = .ok (.aload_n 0, 1) := by decide +kernel
theorem dX10_relock_80 : decode cX10_relock 80 = .ok (.getfield 70, 3) := by decide +kernel
theorem dX10_relock_83 : decode cX10_relock 83 = .ok (.iload_n 3, 1) := by decide +kernel
theorem dX10_relock_84 : decode cX10_relock 84 = .ok (.aaload, 1) := by decide +kernel
theorem dX10_relock_85 : decode cX10_relock 85 = .ok (.aload_n 0, 1) := by decide +kernel
theorem dX10_relock_86 : decode cX10_relock 86 = .ok (.getfield 73, 3) := by decide +kernel
theorem dX10_relock_89 : decode cX10_relock 89 = .ok (.iload_n 3, 1) := by decide +kernel
theorem dX10_relock_90 : decode cX10_relock 90 = .ok (.aaload, 1) := by decide +kernel
theorem dX10_relock_91 : decode cX10_relock 91 = .ok (.invokevirtual 142, 3) := by decide +kernel
theorem dX10_relock_94 : decode cX10_relock 94 = .ok (.ifCond .ne 9, 3) := by decide +kernel
theorem dX10_relock_97 : decode cX10_relock 97 = .ok (.aload_n 0, 1) := by decide +kernel
theorem dX10_relock_98 : decode cX10_relock 98 = .ok (.iconst 4, 1) := by decide +kernel
theorem dX10_relock_99 : decode cX10_relock 99 = .ok (.invokevirtual 126, 3) := by decide +kernel
theorem dX10_relock_102 : decode cX10_relock 102 = .ok (.ireturn, 1) := by decide +kernel
theorem dX10_relock_103 : decode cX10_relock 103 = .ok (.iconst 0, 1) := by decide +kernel
theorem dX10_relock_104 : decode cX10_relock 104 = .ok (.istore 4, 2) := by decide +kernel
theorem dX10_relock_106 : decode cX10_relock 106 = .ok (.iconst 0, 1) := by decide +kernel
theorem dX10_relock_107 : decode cX10_relock 107 = .ok (.istore 5, 2) := by decide +kernel
theorem dX10_relock_109 : decode cX10_relock 109 = .ok (.iload 5, 2) := by decide +kernel
theorem dX10_relock_111 : decode cX10_relock 111 = .ok (.bipush 6, 2) := by decide +kernel
theorem dX10_relock_113 : decode cX10_relock 113 = .ok (.if_icmp .ge 52, 3) := by decide +kernel
theorem dX10_relock_116 : decode cX10_relock 116 = .ok (.iload 4, 2) := by decide +kernel
theorem dX10_relock_118 : decode cX10_relock 118 = .ok (.aload_n 0, 1) := by decide +kernel
theorem dX10_relock_119 : decode cX10_relock 119 = .ok (.getfield 76, 3) := by decide +kernel
theorem dX10_relock_122 : decode cX10_relock 122 = .ok (.iload_n 3, 1) := by decide +kernel
theorem dX10_relock_123 : decode cX10_relock 123 = .ok (.aaload, 1) := by decide +kernel
theorem dX10_relock_124 : decode cX10_relock 124 = .ok (.iload 5, 2) := by decide +kernel
theorem dX10_relock_126 : decode cX10_relock 126 = .ok (.iaload, 1) := by decide +kernel
theorem dX10_relock_127 : decode cX10_relock 127 = .ok (.aload_n 0, 1) := by decide +kernel
theorem dX10_relock_128 : decode cX10_relock 128 = .ok (.iload 5, 2) := by decide +kernel
theorem dX10_relock_130 : decode cX10_relock 130 = .ok (.invokevirtual 155, 3) := by decide +kernel
theorem dX10_relock_133 : decode cX10_relock 133 = .ok (.if_icmp .ne 7, 3) := by decide +kernel
theorem dX10_relock_136 : decode cX10_relock 136 = .ok (.iconst 0, 1) := by decide +kernel
theorem dX10_relock_137 : decode cX10_relock 137 = .ok (.goto 4, 3) := by decide +kernel
theorem dX10_relock_140 : decode cX10_relock 140 = .ok (.iconst 1, 1) := by decide +kernel
theorem dX10_relock_141 : decode cX10_relock 141 = .ok (.iadd, 1) := by decide +kernel
theorem dX10_relock_142 : decode cX10_relock 142 = .ok (.istore 4, 2) := by decide +kernel
theorem dX10_relock_144 : decode cX10_relock 144 = .ok (.aload_n 0, 1) := by decide +kernel
theorem dX10_relock_145 : decode cX10_relock 145 = .ok (.getfield 76, 3) := by decide +kernel
theorem dX10_relock_148 : decode cX10_relock 148 = .ok (.iload_n 3, 1) := by decide +kernel
theorem dX10_relock_149 : decode cX10_relock 149 = .ok (.aaload, 1) := by decide +kernel
theorem dX10_relock_150 : decode cX10_relock 150 = .ok (.iload 5, 2) := by decide +kernel
theorem dX10_relock_152 : decode cX10_relock 152 = .ok (.aload_n 0, 1) := by decide +kernel
theorem dX10_relock_153 : decode cX10_relock 153 = .ok (.iload 5, 2) := by decide +kernel
theorem dX10_relock_155 : decode cX10_relock 155 = .ok (.invokevirtual 155, 3) := by decide +kernel
theorem dX10_relock_158 : decode cX10_relock 158 = .ok (.iastore, 1) := by decide +kernel
theorem dX10_relock_159 : decode cX10_relock 159 = .ok (.iinc 5 1, 3) := by decide +kernel
theorem dX10_relock_162 : decode cX10_relock 162 = .ok (.goto (-53), 3) := by decide +kernel
theorem dX10_relock_165 : decode cX10_relock 165 = .ok (.iload 4, 2) := by decide +kernel
theorem dX10_relock_167 : decode cX10_relock 167 = .ok (.ireturn, 1) := by decide +kernel
theorem dX10_locked_0 : decode cX10_locked 0 = .ok (.aload_n 0, 1) := by decide +kernel
theorem dX10_locked_1 : decode cX10_locked 1 = .ok (.aload_n 0, 1) := by decide +kernel
theorem dX10_locked_2 : decode cX10_locked 2 = .ok (.iload_n 1, 1) := by decide +kernel
theorem dX10_locked_3 : decode cX10_locked 3 = .ok (.invokevirtual 119, 3) := by decide +kernel
theorem dX10_locked_6 : decode cX10_locked 6 = .ok (.ifCond .eq 11, 3) := by decide +kernel
theorem dX10_locked_9 : decode cX10_locked 9 = .ok (.aload_n 0, 1) := by decide +kernel
theorem dX10_locked_10 : decode cX10_locked 10 = .ok (.iload_n 3, 1) := by decide +kernel
theorem dX10_locked_11 : decode cX10_locked 11 = .ok (.invokevirtual 119, 3) := by decide +kernel
theorem dX10_locked_14 : decode cX10_locked 14 = .ok (.ifCond .ne 7, 3) := by decide +kernel
theorem dX10_locked_17 : decode cX10_locked 17 = .ok (.iconst 1, 1) := by decide +kernel
theorem dX10_locked_18 : decode cX10_locked 18 = .ok (.goto 18, 3) := by decide +kernel
theorem dX10_locked_21 : decode cX10_locked 21 = .ok (.aload_n 0, 1) := by decide +kernel
theorem dX10_locked_22 : decode cX10_locked 22 = .ok (.iload_n 1, 1) := by decide +kernel
theorem dX10_locked_23 : decode cX10_locked 23 = .ok (.iload_n 2, 1) := by decide +kernel
theorem dX10_locked_24 : decode cX10_locked 24 = .ok (.invokevirtual 206, 3) := by decide +kernel
theorem dX10_locked_27 : decode cX10_locked 27 = .ok (.iconst (-1), 1) := by decide +kernel
theorem dX10_locked_28 : decode cX10_locked 28 = .ok (.if_icmp .ne 7, 3) := by decide +kernel
theorem dX10_locked_31 : decode cX10_locked 31 = .ok (.iconst 2, 1) := by decide +kernel
theorem dX10_locked_32 : decode cX10_locked 32 = .ok (.goto 4, 3) := by decide +kernel
theorem dX10_locked_35 : decode cX10_locked 35 = .ok (.iconst 0, 1) := by decide +kernel
theorem dX10_locked_36 : decode cX10_locked 36 = .ok (.putfield 109, 3) := by decide +kernel
theorem dX10_locked_39 : decode cX10_locked 39 = .ok (.aload_n 0, 1) := by decide +kernel
theorem dX10_locked_40 : decode cX10_locked 40 = .ok (.getfield 109, 3) := by decide +kernel
theorem dX10_locked_43 : decode cX10_locked 43 = .ok (.ifCond .le 7, 3) := by decide +kernel
theorem dX10_locked_46 : decode cX10_locked 46 = .ok (.iconst 0, 1) := by decide +kernel
theorem dX10_locked_47 : decode cX10_locked 47 = .ok (.goto 16, 3) := by decide +kernel
theorem dX10_locked_50 : decode cX10_locked 50 = .ok (.aload_n 0, 1) := by decide +kernel
theorem dX10_locked_51 : decode cX10_locked 51 = .ok (.getfield 76, 3) := by decide +kernel
theorem dX10_locked_54 : decode cX10_locked 54 = .ok (.aload_n 0, 1) := by decide +kernel
theorem dX10_locked_55 : decode cX10_locked 55 = .ok (.iload_n 1, 1) := by decide +kernel
theorem dX10_locked_56 : decode cX10_locked 56 = .ok (.iload_n 2, 1) := by decide +kernel
theorem dX10_locked_57 : decode cX10_locked 57 = .ok (.invokevirtual 206, 3) := by decide +kernel
theorem dX10_locked_60 : decode cX10_locked 60 = .ok (.aaload, 1) := by decide +kernel
theorem dX10_locked_61 : decode cX10_locked 61 = .ok (.iload_n 3, 1) := by decide +kernel
theorem dX10_locked_62 : decode cX10_locked 62 = .ok (.iaload, 1) := by decide +kernel
theorem dX10_locked_63 : decode cX10_locked 63 = .ok (.ireturn, 1) := by decide +kernel
theorem dX10_goodShare_0 : decode cX10_goodShare 0 = .ok (.aload_n 0, 1) := by decide +kernel
theorem dX10_goodShare_1 : decode cX10_goodShare 1 = .ok (.aload_n 0, 1) := by decide +kernel
theorem dX10_goodShare_2 : decode cX10_goodShare 2 = .ok (.getfield 146, 3) := by decide +kernel
theorem dX10_goodShare_5 : decode cX10_goodShare 5 = .ok (.ifCond .ne 7, 3) := by decide +kernel
theorem dX10_goodShare_8 : decode cX10_goodShare 8 = .ok (.iconst 1, 1) := by decide +kernel
theorem dX10_goodShare_9 : decode cX10_goodShare 9 = .ok (.goto 4, 3) := by decide +kernel
theorem dX10_goodShare_12 : decode cX10_goodShare 12 = .ok (.iconst 0, 1) := by decide +kernel
theorem dX10_goodShare_13 : decode cX10_goodShare 13 = .ok (.putfield 109, 3) := by decide +kernel
theorem dX10_goodShare_16 : decode cX10_goodShare 16 = .ok (.iconst 0, 1) := by decide +kernel
theorem dX10_goodShare_17 : decode cX10_goodShare 17 = .ok (.istore_n 1, 1) := by decide +kernel
theorem dX10_goodShare_18 : decode cX10_goodShare 18 = .ok (.iconst 0, 1) := by decide +kernel
theorem dX10_goodShare_19 : decode cX10_goodShare 19 = .ok (.istore_n 2, 1) := by decide +kernel
theorem dX10_goodShare_20 : decode cX10_goodShare 20 = .ok (.iload_n 2, 1) := by decide +kernel
theorem dX10_goodShare_21 : decode cX10_goodShare 21 = .ok (.aload_n 0, 1) := by decide +kernel
theorem dX10_goodShare_22 : decode cX10_goodShare 22 = .ok (.getfield 146, 3) := by decide +kernel
theorem dX10_goodShare_25 : decode cX10_goodShare 25 = .ok (.if_icmp .ge 34, 3) := by decide +kernel
theorem dX10_goodShare_28 : decode cX10_goodShare 28 = .ok (.iload_n 1, 1) := by decide +kernel
theorem dX10_goodShare_29 : decode cX10_goodShare 29 = .ok (.aload_n 0, 1) := by decide +kernel
theorem dX10_goodShare_30 : decode cX10_goodShare 30 = .ok (.getfield 79, 3) := by decide +kernel
theorem dX10_goodShare_33 : decode cX10_goodShare 33 = .ok (.iload_n 2, 1) := by decide +kernel
theorem dX10_goodShare_34 : decode cX10_goodShare 34 = .ok (.baload, 1) := by decide +kernel
theorem dX10_goodShare_35 : decode cX10_goodShare 35 = .ok (.ifCond .ne 15, 3) := by decide +kernel
theorem dX10_goodShare_38 : decode cX10_goodShare 38 = .ok (.aload_n 0, 1) := by decide +kernel
theorem dX10_goodShare_39 : decode cX10_goodShare 39 = .ok (.iload_n 2, 1) := by decide +kernel
theorem dX10_goodShare_40 : decode cX10_goodShare 40 = .ok (.invokevirtual 209, 3) := by decide +kernel
theorem dX10_goodShare_43 : decode cX10_goodShare 43 = .ok (.ifCond .ne 7, 3) := by decide +kernel
theorem dX10_goodShare_46 : decode cX10_goodShare 46 = .ok (.iconst 1, 1) := by decide +kernel
theorem dX10_goodShare_47 : decode cX10_goodShare 47 = .ok (.goto 4, 3) := by decide +kernel
theorem dX10_goodShare_50 : decode cX10_goodShare 50 = .ok (.iconst 0, 1) := by decide +kernel
theorem dX10_goodShare_51 : decode cX10_goodShare 51 = .ok (.iadd, 1) := by decide +kernel
theorem dX10_goodShare_52 : decode cX10_goodShare 52 = .ok (.istore_n 1, 1) := by decide +kernel
theorem dX10_goodShare_53 : decode cX10_goodShare 53 = .ok (.iinc 2 1, 3) := by decide +kernel
theorem dX10_goodShare_56 : decode cX10_goodShare 56 = .ok (.goto (-36), 3) := by decide +kernel
theorem dX10_goodShare_59 : decode cX10_goodShare 59 = .ok (.aload_n 0, 1) := by decide +kernel
theorem dX10_goodShare_60 : decode cX10_goodShare 60 = .ok (.getfield 109, 3) := by decide +kernel
theorem dX10_goodShare_63 : decode cX10_goodShare 63 = .ok (.ifCond .le 7, 3) := by decide +kernel
theorem dX10_goodShare_66 : decode cX10_goodShare 66 = .ok (.fconst 0, 1) := by decide +kernel
theorem dX10_goodShare_67 : decode cX10_goodShare 67 = .ok (.goto 11, 3) := by decide +kernel
theorem dX10_goodShare_70 : decode cX10_goodShare 70 = .ok (.iload_n 1, 1) := by decide +kernel
theorem dX10_goodShare_71 : decode cX10_goodShare 71 = .ok (.i2f, 1) := by decide +kernel
theorem dX10_goodShare_72 : decode cX10_goodShare 72 = .ok (.aload_n 0, 1) := by decide +kernel
theorem dX10_goodShare_73 : decode cX10_goodShare 73 = .ok (.getfield 146, 3) := by decide +kernel
theorem dX10_goodShare_76 : decode cX10_goodShare 76 = .ok (.i2f, 1) := by decide +kernel
theorem dX10_goodShare_77 : decode cX10_goodShare 77 = .ok (.fdiv, 1) := by decide +kernel
theorem dX10_goodShare_78 : decode cX10_goodShare 78 = .ok (.freturn, 1) := by decide +kernel
theorem dX10_meanPaid_0 : decode cX10_meanPaid 0 = .ok (.aload_n 0, 1) := by decide +kernel
theorem dX10_meanPaid_1 : decode cX10_meanPaid 1 = .ok (.aload_n 0, 1) := by decide +kernel
theorem dX10_meanPaid_2 : decode cX10_meanPaid 2 = .ok (.getfield 188, 3) := by decide +kernel
theorem dX10_meanPaid_5 : decode cX10_meanPaid 5 = .ok (.ifCond .ne 7, 3) := by decide +kernel
theorem dX10_meanPaid_8 : decode cX10_meanPaid 8 = .ok (.iconst 1, 1) := by decide +kernel
theorem dX10_meanPaid_9 : decode cX10_meanPaid 9 = .ok (.goto 4, 3) := by decide +kernel
theorem dX10_meanPaid_12 : decode cX10_meanPaid 12 = .ok (.iconst 0, 1) := by decide +kernel
theorem dX10_meanPaid_13 : decode cX10_meanPaid 13 = .ok (.putfield 109, 3) := by decide +kernel
theorem dX10_meanPaid_16 : decode cX10_meanPaid 16 = .ok (.aload_n 0, 1) := by decide +kernel
theorem dX10_meanPaid_17 : decode cX10_meanPaid 17 = .ok (.getfield 109, 3) := by decide +kernel
theorem dX10_meanPaid_20 : decode cX10_meanPaid 20 = .ok (.ifCond .le 7, 3) := by decide +kernel
theorem dX10_meanPaid_23 : decode cX10_meanPaid 23 = .ok (.dconst 0, 1) := by decide +kernel
theorem dX10_meanPaid_24 : decode cX10_meanPaid 24 = .ok (.goto 14, 3) := by decide +kernel
theorem dX10_meanPaid_27 : decode cX10_meanPaid 27 = .ok (.aload_n 0, 1) := by decide +kernel
theorem dX10_meanPaid_28 : decode cX10_meanPaid 28 = .ok (.getfield 185, 3) := by decide +kernel
theorem dX10_meanPaid_31 : decode cX10_meanPaid 31 = .ok (.i2d, 1) := by decide +kernel
theorem dX10_meanPaid_32 : decode cX10_meanPaid 32 = .ok (.aload_n 0, 1) := by decide +kernel
theorem dX10_meanPaid_33 : decode cX10_meanPaid 33 = .ok (.getfield 188, 3) := by decide +kernel
theorem dX10_meanPaid_36 : decode cX10_meanPaid 36 = .ok (.i2d, 1) := by decide +kernel
theorem dX10_meanPaid_37 : decode cX10_meanPaid 37 = .ok (.ddiv, 1) := by decide +kernel
theorem dX10_meanPaid_38 : decode cX10_meanPaid 38 = .ok (.dreturn, 1) := by decide +kernel
theorem dJx00060_init_a7421_0 : decode cJx00060_init_a7421 0 = .ok (.aload_n 0, 1) := by decide +kernel
theorem dJx00060_init_a7421_1 : decode cJx00060_init_a7421 1 = .ok (.aload_n 1, 1) := by decide +kernel
theorem dJx00060_init_a7421_2 : decode cJx00060_init_a7421 2 = .ok (.invokespecial 7, 3) := by decide +kernel
theorem dJx00060_init_a7421_5 : decode cJx00060_init_a7421 5 = .ok (.return_, 1) := by decide +kernel
theorem dJ6_bitCount_0f7a4_0 : decode cJ6_bitCount_0f7a4 0 = .ok (.iload_n 0, 1) := by decide +kernel
theorem dJ6_bitCount_0f7a4_1 : decode cJ6_bitCount_0f7a4 1 = .ok (.iload_n 0, 1) := by decide +kernel
theorem dJ6_bitCount_0f7a4_2 : decode cJ6_bitCount_0f7a4 2 = .ok (.iconst 1, 1) := by decide +kernel
theorem dJ6_bitCount_0f7a4_3 : decode cJ6_bitCount_0f7a4 3 = .ok (.iushr, 1) := by decide +kernel
theorem dJ6_bitCount_0f7a4_4 : decode cJ6_bitCount_0f7a4 4 = .ok (.ldc_w 265, 3) := by decide +kernel
theorem dJ6_bitCount_0f7a4_7 : decode cJ6_bitCount_0f7a4 7 = .ok (.iand, 1) := by decide +kernel
theorem dJ6_bitCount_0f7a4_8 : decode cJ6_bitCount_0f7a4 8 = .ok (.isub, 1) := by decide +kernel
theorem dJ6_bitCount_0f7a4_9 : decode cJ6_bitCount_0f7a4 9 = .ok (.istore_n 0, 1) := by decide +kernel
theorem dJ6_bitCount_0f7a4_10 : decode cJ6_bitCount_0f7a4 10 = .ok (.iload_n 0, 1) := by decide +kernel
theorem dJ6_bitCount_0f7a4_11 : decode cJ6_bitCount_0f7a4 11 = .ok (.ldc_w 266, 3) := by decide +kernel
theorem dJ6_bitCount_0f7a4_14 : decode cJ6_bitCount_0f7a4 14 = .ok (.iand, 1) := by decide +kernel
theorem dJ6_bitCount_0f7a4_15 : decode cJ6_bitCount_0f7a4 15 = .ok (.iload_n 0, 1) := by decide +kernel
theorem dJ6_bitCount_0f7a4_16 : decode cJ6_bitCount_0f7a4 16 = .ok (.iconst 2, 1) := by decide +kernel
theorem dJ6_bitCount_0f7a4_17 : decode cJ6_bitCount_0f7a4 17 = .ok (.iushr, 1) := by decide +kernel
theorem dJ6_bitCount_0f7a4_18 : decode cJ6_bitCount_0f7a4 18 = .ok (.ldc_w 266, 3) := by decide +kernel
theorem dJ6_bitCount_0f7a4_21 : decode cJ6_bitCount_0f7a4 21 = .ok (.iand, 1) := by decide +kernel
theorem dJ6_bitCount_0f7a4_22 : decode cJ6_bitCount_0f7a4 22 = .ok (.iadd, 1) := by decide +kernel
theorem dJ6_bitCount_0f7a4_23 : decode cJ6_bitCount_0f7a4 23 = .ok (.istore_n 0, 1) := by decide +kernel
theorem dJ6_bitCount_0f7a4_24 : decode cJ6_bitCount_0f7a4 24 = .ok (.iload_n 0, 1) := by decide +kernel
theorem dJ6_bitCount_0f7a4_25 : decode cJ6_bitCount_0f7a4 25 = .ok (.iload_n 0, 1) := by decide +kernel
theorem dJ6_bitCount_0f7a4_26 : decode cJ6_bitCount_0f7a4 26 = .ok (.iconst 4, 1) := by decide +kernel
theorem dJ6_bitCount_0f7a4_27 : decode cJ6_bitCount_0f7a4 27 = .ok (.iushr, 1) := by decide +kernel
theorem dJ6_bitCount_0f7a4_28 : decode cJ6_bitCount_0f7a4 28 = .ok (.iadd, 1) := by decide +kernel
theorem dJ6_bitCount_0f7a4_29 : decode cJ6_bitCount_0f7a4 29 = .ok (.ldc_w 267, 3) := by decide +kernel
theorem dJ6_bitCount_0f7a4_32 : decode cJ6_bitCount_0f7a4 32 = .ok (.iand, 1) := by decide +kernel
theorem dJ6_bitCount_0f7a4_33 : decode cJ6_bitCount_0f7a4 33 = .ok (.istore_n 0, 1) := by decide +kernel
theorem dJ6_bitCount_0f7a4_34 : decode cJ6_bitCount_0f7a4 34 = .ok (.iload_n 0, 1) := by decide +kernel
theorem dJ6_bitCount_0f7a4_35 : decode cJ6_bitCount_0f7a4 35 = .ok (.iload_n 0, 1) := by decide +kernel
theorem dJ6_bitCount_0f7a4_36 : decode cJ6_bitCount_0f7a4 36 = .ok (.bipush 8, 2) := by decide +kernel
theorem dJ6_bitCount_0f7a4_38 : decode cJ6_bitCount_0f7a4 38 = .ok (.iushr, 1) := by decide +kernel
theorem dJ6_bitCount_0f7a4_39 : decode cJ6_bitCount_0f7a4 39 = .ok (.iadd, 1) := by decide +kernel
theorem dJ6_bitCount_0f7a4_40 : decode cJ6_bitCount_0f7a4 40 = .ok (.istore_n 0, 1) := by decide +kernel
theorem dJ6_bitCount_0f7a4_41 : decode cJ6_bitCount_0f7a4 41 = .ok (.iload_n 0, 1) := by decide +kernel
theorem dJ6_bitCount_0f7a4_42 : decode cJ6_bitCount_0f7a4 42 = .ok (.iload_n 0, 1) := by decide +kernel
theorem dJ6_bitCount_0f7a4_43 : decode cJ6_bitCount_0f7a4 43 = .ok (.bipush 16, 2) := by decide +kernel
theorem dJ6_bitCount_0f7a4_45 : decode cJ6_bitCount_0f7a4 45 = .ok (.iushr, 1) := by decide +kernel
theorem dJ6_bitCount_0f7a4_46 : decode cJ6_bitCount_0f7a4 46 = .ok (.iadd, 1) := by decide +kernel
theorem dJ6_bitCount_0f7a4_47 : decode cJ6_bitCount_0f7a4 47 = .ok (.istore_n 0, 1) := by decide +kernel
theorem dJ6_bitCount_0f7a4_48 : decode cJ6_bitCount_0f7a4 48 = .ok (.iload_n 0, 1) := by decide +kernel
theorem dJ6_bitCount_0f7a4_49 : decode cJ6_bitCount_0f7a4 49 = .ok (.bipush 63, 2) := by decide +kernel
theorem dJ6_bitCount_0f7a4_51 : decode cJ6_bitCount_0f7a4 51 = .ok (.iand, 1) := by decide +kernel
theorem dJ6_bitCount_0f7a4_52 : decode cJ6_bitCount_0f7a4 52 = .ok (.ireturn, 1) := by decide +kernel
theorem dJ9_max_7cf53_0 : decode cJ9_max_7cf53 0 = .ok (.iload_n 0, 1) := by decide +kernel
theorem dJ9_max_7cf53_1 : decode cJ9_max_7cf53 1 = .ok (.iload_n 1, 1) := by decide +kernel
theorem dJ9_max_7cf53_2 : decode cJ9_max_7cf53 2 = .ok (.if_icmp .lt 7, 3) := by decide +kernel
theorem dJ9_max_7cf53_5 : decode cJ9_max_7cf53 5 = .ok (.iload_n 0, 1) := by decide +kernel
theorem dJ9_max_7cf53_6 : decode cJ9_max_7cf53 6 = .ok (.goto 4, 3) := by decide +kernel
theorem dJ9_max_7cf53_9 : decode cJ9_max_7cf53 9 = .ok (.iload_n 1, 1) := by decide +kernel
theorem dJ9_max_7cf53_10 : decode cJ9_max_7cf53 10 = .ok (.ireturn, 1) := by decide +kernel
theorem dJ9_min_7cf53_0 : decode cJ9_min_7cf53 0 = .ok (.iload_n 0, 1) := by decide +kernel
theorem dJ9_min_7cf53_1 : decode cJ9_min_7cf53 1 = .ok (.iload_n 1, 1) := by decide +kernel
theorem dJ9_min_7cf53_2 : decode cJ9_min_7cf53 2 = .ok (.if_icmp .gt 7, 3) := by decide +kernel
theorem dJ9_min_7cf53_5 : decode cJ9_min_7cf53 5 = .ok (.iload_n 0, 1) := by decide +kernel
theorem dJ9_min_7cf53_6 : decode cJ9_min_7cf53 6 = .ok (.goto 4, 3) := by decide +kernel
theorem dJ9_min_7cf53_9 : decode cJ9_min_7cf53 9 = .ok (.iload_n 1, 1) := by decide +kernel
theorem dJ9_min_7cf53_10 : decode cJ9_min_7cf53 10 = .ok (.ireturn, 1) := by decide +kernel
theorem dJxa1e45_init_da8c8_0 : decode cJxa1e45_init_da8c8 0 = .ok (.aload_n 0, 1) := by decide +kernel
theorem dJxa1e45_init_da8c8_1 : decode cJxa1e45_init_da8c8 1 = .ok (.invokespecial 1, 3) := by decide +kernel
theorem dJxa1e45_init_da8c8_4 : decode cJxa1e45_init_da8c8 4 = .ok (.return_, 1) := by decide +kernel
theorem dJxc12de_init_da8c8_0 : decode cJxc12de_init_da8c8 0 = .ok (.aload_n 0, 1) := by decide +kernel
theorem dJxc12de_init_da8c8_1 : decode cJxc12de_init_da8c8 1 = .ok (.invokespecial 1, 3) := by decide +kernel
theorem dJxc12de_init_da8c8_4 : decode cJxc12de_init_da8c8 4 = .ok (.aload_n 0, 1) := by decide +kernel
theorem dJxc12de_init_da8c8_5 : decode cJxc12de_init_da8c8 5 = .ok (.iconst 0, 1) := by decide +kernel
theorem dJxc12de_init_da8c8_6 : decode cJxc12de_init_da8c8 6 = .ok (.putfield 7, 3) := by decide +kernel
theorem dJxc12de_init_da8c8_9 : decode cJxc12de_init_da8c8 9 = .ok (.return_, 1) := by decide +kernel
theorem dJx4a65c_init_da8c8_0 : decode cJx4a65c_init_da8c8 0 = .ok (.aload_n 0, 1) := by decide +kernel
theorem dJx4a65c_init_da8c8_1 : decode cJx4a65c_init_da8c8 1 = .ok (.invokespecial 1, 3) := by decide +kernel
theorem dJx4a65c_init_da8c8_4 : decode cJx4a65c_init_da8c8 4 = .ok (.aload_n 0, 1) := by decide +kernel
theorem dJx4a65c_init_da8c8_5 : decode cJx4a65c_init_da8c8 5 = .ok (.getstatic 39, 3) := by decide +kernel
theorem dJx4a65c_init_da8c8_8 : decode cJx4a65c_init_da8c8 8 = .ok (.putfield 9, 3) := by decide +kernel
theorem dJx4a65c_init_da8c8_11 : decode cJx4a65c_init_da8c8 11 = .ok (.return_, 1) := by decide +kernel
theorem dJx4a65c_grow_92f84_0 : decode cJx4a65c_grow_92f84 0 = .ok (.aload_n 0, 1) := by decide +kernel
theorem dJx4a65c_grow_92f84_1 : decode cJx4a65c_grow_92f84 1 = .ok (.getfield 9, 3) := by decide +kernel
theorem dJx4a65c_grow_92f84_4 : decode cJx4a65c_grow_92f84 4 = .ok (.arraylength, 1) := by decide +kernel
theorem dJx4a65c_grow_92f84_5 : decode cJx4a65c_grow_92f84 5 = .ok (.istore_n 2, 1) := by decide +kernel
theorem dJx4a65c_grow_92f84_6 : decode cJx4a65c_grow_92f84 6 = .ok (.iload_n 2, 1) := by decide +kernel
theorem dJx4a65c_grow_92f84_7 : decode cJx4a65c_grow_92f84 7 = .ok (.ifCond .gt 13, 3) := by decide +kernel
theorem dJx4a65c_grow_92f84_10 : decode cJx4a65c_grow_92f84 10 = .ok (.aload_n 0, 1) := by decide +kernel
theorem dJx4a65c_grow_92f84_11 : decode cJx4a65c_grow_92f84 11 = .ok (.getfield 9, 3) := by decide +kernel
theorem dJx4a65c_grow_92f84_14 : decode cJx4a65c_grow_92f84 14 = .ok (.getstatic 39, 3) := by decide +kernel
theorem dJx4a65c_grow_92f84_17 : decode cJx4a65c_grow_92f84 17 = .ok (.if_acmp .eq 28, 3) := by decide +kernel
theorem dJx4a65c_grow_92f84_20 : decode cJx4a65c_grow_92f84 20 = .ok (.iload_n 2, 1) := by decide +kernel
theorem dJx4a65c_grow_92f84_21 : decode cJx4a65c_grow_92f84 21 = .ok (.iload_n 1, 1) := by decide +kernel
theorem dJx4a65c_grow_92f84_22 : decode cJx4a65c_grow_92f84 22 = .ok (.iload_n 2, 1) := by decide +kernel
theorem dJx4a65c_grow_92f84_23 : decode cJx4a65c_grow_92f84 23 = .ok (.isub, 1) := by decide +kernel
theorem dJx4a65c_grow_92f84_24 : decode cJx4a65c_grow_92f84 24 = .ok (.iload_n 2, 1) := by decide +kernel
theorem dJx4a65c_grow_92f84_25 : decode cJx4a65c_grow_92f84 25 = .ok (.iconst 1, 1) := by decide +kernel
theorem dJx4a65c_grow_92f84_26 : decode cJx4a65c_grow_92f84 26 = .ok (.ishr, 1) := by decide +kernel
theorem dJx4a65c_grow_92f84_27 : decode cJx4a65c_grow_92f84 27 = .ok (.invokestatic 73, 3) := by decide +kernel
theorem dJx4a65c_grow_92f84_30 : decode cJx4a65c_grow_92f84 30 = .ok (.istore_n 3, 1) := by decide +kernel
theorem dJx4a65c_grow_92f84_31 : decode cJx4a65c_grow_92f84 31 = .ok (.aload_n 0, 1) := by decide +kernel
theorem dJx4a65c_grow_92f84_32 : decode cJx4a65c_grow_92f84 32 = .ok (.aload_n 0, 1) := by decide +kernel
theorem dJx4a65c_grow_92f84_33 : decode cJx4a65c_grow_92f84 33 = .ok (.getfield 9, 3) := by decide +kernel
theorem dJx4a65c_grow_92f84_36 : decode cJx4a65c_grow_92f84 36 = .ok (.iload_n 3, 1) := by decide +kernel
theorem dJx4a65c_grow_92f84_37 : decode cJx4a65c_grow_92f84 37 = .ok (.invokestatic 66, 3) := by decide +kernel
theorem dJx4a65c_grow_92f84_40 : decode cJx4a65c_grow_92f84 40 = .ok (.dup_x1, 1) := by decide +kernel
theorem dJx4a65c_grow_92f84_41 : decode cJx4a65c_grow_92f84 41 = .ok (.putfield 9, 3) := by decide +kernel
theorem dJx4a65c_grow_92f84_44 : decode cJx4a65c_grow_92f84 44 = .ok (.areturn, 1) := by decide +kernel
theorem dJx4a65c_grow_92f84_45 : decode cJx4a65c_grow_92f84 45 = .ok (.aload_n 0, 1) := by decide +kernel
theorem dJx4a65c_grow_92f84_46 : decode cJx4a65c_grow_92f84 46 = .ok (.bipush 10, 2) := by decide +kernel
theorem dJx4a65c_grow_92f84_48 : decode cJx4a65c_grow_92f84 48 = .ok (.iload_n 1, 1) := by decide +kernel
theorem dJx4a65c_grow_92f84_49 : decode cJx4a65c_grow_92f84 49 = .ok (.invokestatic 79, 3) := by decide +kernel
theorem dJx4a65c_grow_92f84_52 : decode cJx4a65c_grow_92f84 52 = .ok (.anewarray 7, 3) := by decide +kernel
theorem dJx4a65c_grow_92f84_55 : decode cJx4a65c_grow_92f84 55 = .ok (.dup_x1, 1) := by decide +kernel
theorem dJx4a65c_grow_92f84_56 : decode cJx4a65c_grow_92f84 56 = .ok (.putfield 9, 3) := by decide +kernel
theorem dJx4a65c_grow_92f84_59 : decode cJx4a65c_grow_92f84 59 = .ok (.areturn, 1) := by decide +kernel
theorem dJx4a65c_grow_d5877_0 : decode cJx4a65c_grow_d5877 0 = .ok (.aload_n 0, 1) := by decide +kernel
theorem dJx4a65c_grow_d5877_1 : decode cJx4a65c_grow_d5877 1 = .ok (.aload_n 0, 1) := by decide +kernel
theorem dJx4a65c_grow_d5877_2 : decode cJx4a65c_grow_d5877 2 = .ok (.getfield 48, 3) := by decide +kernel
theorem dJx4a65c_grow_d5877_5 : decode cJx4a65c_grow_d5877 5 = .ok (.iconst 1, 1) := by decide +kernel
theorem dJx4a65c_grow_d5877_6 : decode cJx4a65c_grow_d5877 6 = .ok (.iadd, 1) := by decide +kernel
theorem dJx4a65c_grow_d5877_7 : decode cJx4a65c_grow_d5877 7 = .ok (.invokevirtual 69, 3) := by decide +kernel
theorem dJx4a65c_grow_d5877_10 : decode cJx4a65c_grow_d5877 10 = .ok (.areturn, 1) := by decide +kernel
theorem dJx4a65c_size_8abf5_0 : decode cJx4a65c_size_8abf5 0 = .ok (.aload_n 0, 1) := by decide +kernel
theorem dJx4a65c_size_8abf5_1 : decode cJx4a65c_size_8abf5 1 = .ok (.getfield 48, 3) := by decide +kernel
theorem dJx4a65c_size_8abf5_4 : decode cJx4a65c_size_8abf5 4 = .ok (.ireturn, 1) := by decide +kernel
theorem dJx4a65c_isEmpty_aae02_0 : decode cJx4a65c_isEmpty_aae02 0 = .ok (.aload_n 0, 1) := by decide +kernel
theorem dJx4a65c_isEmpty_aae02_1 : decode cJx4a65c_isEmpty_aae02 1 = .ok (.getfield 48, 3) := by decide +kernel
theorem dJx4a65c_isEmpty_aae02_4 : decode cJx4a65c_isEmpty_aae02 4 = .ok (.ifCond .ne 7, 3) := by decide +kernel
theorem dJx4a65c_isEmpty_aae02_7 : decode cJx4a65c_isEmpty_aae02 7 = .ok (.iconst 1, 1) := by decide +kernel
theorem dJx4a65c_isEmpty_aae02_8 : decode cJx4a65c_isEmpty_aae02 8 = .ok (.goto 4, 3) := by decide +kernel
theorem dJx4a65c_isEmpty_aae02_11 : decode cJx4a65c_isEmpty_aae02 11 = .ok (.iconst 0, 1) := by decide +kernel
theorem dJx4a65c_isEmpty_aae02_12 : decode cJx4a65c_isEmpty_aae02 12 = .ok (.ireturn, 1) := by decide +kernel
theorem dJx4a65c_elementData_915e3_0 : decode cJx4a65c_elementData_915e3 0 = .ok (.aload_n 0, 1) := by decide +kernel
theorem dJx4a65c_elementData_915e3_1 : decode cJx4a65c_elementData_915e3 1 = .ok (.getfield 9, 3) := by decide +kernel
theorem dJx4a65c_elementData_915e3_4 : decode cJx4a65c_elementData_915e3 4 = .ok (.iload_n 1, 1) := by decide +kernel
theorem dJx4a65c_elementData_915e3_5 : decode cJx4a65c_elementData_915e3 5 = .ok (.aaload, 1) := by decide +kernel
theorem dJx4a65c_elementData_915e3_6 : decode cJx4a65c_elementData_915e3 6 = .ok (.areturn, 1) := by decide +kernel
theorem dJx4a65c_get_915e3_0 : decode cJx4a65c_get_915e3 0 = .ok (.iload_n 1, 1) := by decide +kernel
theorem dJx4a65c_get_915e3_1 : decode cJx4a65c_get_915e3 1 = .ok (.aload_n 0, 1) := by decide +kernel
theorem dJx4a65c_get_915e3_2 : decode cJx4a65c_get_915e3 2 = .ok (.getfield 48, 3) := by decide +kernel
theorem dJx4a65c_get_915e3_5 : decode cJx4a65c_get_915e3 5 = .ok (.invokestatic 118, 3) := by decide +kernel
theorem dJx4a65c_get_915e3_8 : decode cJx4a65c_get_915e3 8 = .ok (.pop, 1) := by decide +kernel
theorem dJx4a65c_get_915e3_9 : decode cJx4a65c_get_915e3 9 = .ok (.aload_n 0, 1) := by decide +kernel
theorem dJx4a65c_get_915e3_10 : decode cJx4a65c_get_915e3 10 = .ok (.iload_n 1, 1) := by decide +kernel
theorem dJx4a65c_get_915e3_11 : decode cJx4a65c_get_915e3 11 = .ok (.invokevirtual 123, 3) := by decide +kernel
theorem dJx4a65c_get_915e3_14 : decode cJx4a65c_get_915e3 14 = .ok (.areturn, 1) := by decide +kernel
theorem dJx4a65c_add_72be8_0 : decode cJx4a65c_add_72be8 0 = .ok (.iload_n 3, 1) := by decide +kernel
theorem dJx4a65c_add_72be8_1 : decode cJx4a65c_add_72be8 1 = .ok (.aload_n 2, 1) := by decide +kernel
theorem dJx4a65c_add_72be8_2 : decode cJx4a65c_add_72be8 2 = .ok (.arraylength, 1) := by decide +kernel
theorem dJx4a65c_add_72be8_3 : decode cJx4a65c_add_72be8 3 = .ok (.if_icmp .ne 8, 3) := by decide +kernel
theorem dJx4a65c_add_72be8_6 : decode cJx4a65c_add_72be8 6 = .ok (.aload_n 0, 1) := by decide +kernel
theorem dJx4a65c_add_72be8_7 : decode cJx4a65c_add_72be8 7 = .ok (.invokevirtual 129, 3) := by decide +kernel
theorem dJx4a65c_add_72be8_10 : decode cJx4a65c_add_72be8 10 = .ok (.astore_n 2, 1) := by decide +kernel
theorem dJx4a65c_add_72be8_11 : decode cJx4a65c_add_72be8 11 = .ok (.aload_n 2, 1) := by decide +kernel
theorem dJx4a65c_add_72be8_12 : decode cJx4a65c_add_72be8 12 = .ok (.iload_n 3, 1) := by decide +kernel
theorem dJx4a65c_add_72be8_13 : decode cJx4a65c_add_72be8 13 = .ok (.aload_n 1, 1) := by decide +kernel
theorem dJx4a65c_add_72be8_14 : decode cJx4a65c_add_72be8 14 = .ok (.aastore, 1) := by decide +kernel
theorem dJx4a65c_add_72be8_15 : decode cJx4a65c_add_72be8 15 = .ok (.aload_n 0, 1) := by decide +kernel
theorem dJx4a65c_add_72be8_16 : decode cJx4a65c_add_72be8 16 = .ok (.iload_n 3, 1) := by decide +kernel
theorem dJx4a65c_add_72be8_17 : decode cJx4a65c_add_72be8 17 = .ok (.iconst 1, 1) := by decide +kernel
theorem dJx4a65c_add_72be8_18 : decode cJx4a65c_add_72be8 18 = .ok (.iadd, 1) := by decide +kernel
theorem dJx4a65c_add_72be8_19 : decode cJx4a65c_add_72be8 19 = .ok (.putfield 48, 3) := by decide +kernel
theorem dJx4a65c_add_72be8_22 : decode cJx4a65c_add_72be8 22 = .ok (.return_, 1) := by decide +kernel
theorem dJx4a65c_add_9ea2d_0 : decode cJx4a65c_add_9ea2d 0 = .ok (.aload_n 0, 1) := by decide +kernel
theorem dJx4a65c_add_9ea2d_1 : decode cJx4a65c_add_9ea2d 1 = .ok (.dup, 1) := by decide +kernel
theorem dJx4a65c_add_9ea2d_2 : decode cJx4a65c_add_9ea2d 2 = .ok (.getfield 63, 3) := by decide +kernel
theorem dJx4a65c_add_9ea2d_5 : decode cJx4a65c_add_9ea2d 5 = .ok (.iconst 1, 1) := by decide +kernel
theorem dJx4a65c_add_9ea2d_6 : decode cJx4a65c_add_9ea2d 6 = .ok (.iadd, 1) := by decide +kernel
theorem dJx4a65c_add_9ea2d_7 : decode cJx4a65c_add_9ea2d 7 = .ok (.putfield 63, 3) := by decide +kernel
theorem dJx4a65c_add_9ea2d_10 : decode cJx4a65c_add_9ea2d 10 = .ok (.aload_n 0, 1) := by decide +kernel
theorem dJx4a65c_add_9ea2d_11 : decode cJx4a65c_add_9ea2d 11 = .ok (.aload_n 1, 1) := by decide +kernel
theorem dJx4a65c_add_9ea2d_12 : decode cJx4a65c_add_9ea2d 12 = .ok (.aload_n 0, 1) := by decide +kernel
theorem dJx4a65c_add_9ea2d_13 : decode cJx4a65c_add_9ea2d 13 = .ok (.getfield 9, 3) := by decide +kernel
theorem dJx4a65c_add_9ea2d_16 : decode cJx4a65c_add_9ea2d 16 = .ok (.aload_n 0, 1) := by decide +kernel
theorem dJx4a65c_add_9ea2d_17 : decode cJx4a65c_add_9ea2d 17 = .ok (.getfield 48, 3) := by decide +kernel
theorem dJx4a65c_add_9ea2d_20 : decode cJx4a65c_add_9ea2d 20 = .ok (.invokevirtual 131, 3) := by decide +kernel
theorem dJx4a65c_add_9ea2d_23 : decode cJx4a65c_add_9ea2d 23 = .ok (.iconst 1, 1) := by decide +kernel
theorem dJx4a65c_add_9ea2d_24 : decode cJx4a65c_add_9ea2d 24 = .ok (.ireturn, 1) := by decide +kernel
theorem dJ7_fill_53178_0 : decode cJ7_fill_53178 0 = .ok (.iconst 0, 1) := by decide +kernel
theorem dJ7_fill_53178_1 : decode cJ7_fill_53178 1 = .ok (.istore_n 2, 1) := by decide +kernel
theorem dJ7_fill_53178_2 : decode cJ7_fill_53178 2 = .ok (.aload_n 0, 1) := by decide +kernel
theorem dJ7_fill_53178_3 : decode cJ7_fill_53178 3 = .ok (.arraylength, 1) := by decide +kernel
theorem dJ7_fill_53178_4 : decode cJ7_fill_53178 4 = .ok (.istore_n 3, 1) := by decide +kernel
theorem dJ7_fill_53178_5 : decode cJ7_fill_53178 5 = .ok (.iload_n 2, 1) := by decide +kernel
theorem dJ7_fill_53178_6 : decode cJ7_fill_53178 6 = .ok (.iload_n 3, 1) := by decide +kernel
theorem dJ7_fill_53178_7 : decode cJ7_fill_53178 7 = .ok (.if_icmp .ge 13, 3) := by decide +kernel
theorem dJ7_fill_53178_10 : decode cJ7_fill_53178 10 = .ok (.aload_n 0, 1) := by decide +kernel
theorem dJ7_fill_53178_11 : decode cJ7_fill_53178 11 = .ok (.iload_n 2, 1) := by decide +kernel
theorem dJ7_fill_53178_12 : decode cJ7_fill_53178 12 = .ok (.iload_n 1, 1) := by decide +kernel
theorem dJ7_fill_53178_13 : decode cJ7_fill_53178 13 = .ok (.iastore, 1) := by decide +kernel
theorem dJ7_fill_53178_14 : decode cJ7_fill_53178 14 = .ok (.iinc 2 1, 3) := by decide +kernel
theorem dJ7_fill_53178_17 : decode cJ7_fill_53178 17 = .ok (.goto (-12), 3) := by decide +kernel
theorem dJ7_fill_53178_20 : decode cJ7_fill_53178 20 = .ok (.return_, 1) := by decide +kernel
theorem dJ7_copyOf_1904c_0 : decode cJ7_copyOf_1904c 0 = .ok (.aload_n 0, 1) := by decide +kernel
theorem dJ7_copyOf_1904c_1 : decode cJ7_copyOf_1904c 1 = .ok (.iload_n 1, 1) := by decide +kernel
theorem dJ7_copyOf_1904c_2 : decode cJ7_copyOf_1904c 2 = .ok (.aload_n 0, 1) := by decide +kernel
theorem dJ7_copyOf_1904c_3 : decode cJ7_copyOf_1904c 3 = .ok (.invokevirtual 86, 3) := by decide +kernel
theorem dJ7_copyOf_1904c_6 : decode cJ7_copyOf_1904c 6 = .ok (.invokestatic 300, 3) := by decide +kernel
theorem dJ7_copyOf_1904c_9 : decode cJ7_copyOf_1904c 9 = .ok (.areturn, 1) := by decide +kernel
theorem dJ7_copyOf_6403c_0 : decode cJ7_copyOf_6403c 0 = .ok (.aload_n 2, 1) := by decide +kernel
theorem dJ7_copyOf_6403c_1 : decode cJ7_copyOf_6403c 1 = .ok (.ldc 110, 2) := by decide +kernel
theorem dJ7_copyOf_6403c_3 : decode cJ7_copyOf_6403c 3 = .ok (.if_acmp .ne 10, 3) := by decide +kernel
theorem dJ7_copyOf_6403c_6 : decode cJ7_copyOf_6403c 6 = .ok (.iload_n 1, 1) := by decide +kernel
theorem dJ7_copyOf_6403c_7 : decode cJ7_copyOf_6403c 7 = .ok (.anewarray 2, 3) := by decide +kernel
theorem dJ7_copyOf_6403c_10 : decode cJ7_copyOf_6403c 10 = .ok (.goto 14, 3) := by decide +kernel
theorem dJ7_copyOf_6403c_13 : decode cJ7_copyOf_6403c 13 = .ok (.aload_n 2, 1) := by decide +kernel
theorem dJ7_copyOf_6403c_14 : decode cJ7_copyOf_6403c 14 = .ok (.invokevirtual 90, 3) := by decide +kernel
theorem dJ7_copyOf_6403c_17 : decode cJ7_copyOf_6403c 17 = .ok (.iload_n 1, 1) := by decide +kernel
theorem dJ7_copyOf_6403c_18 : decode cJ7_copyOf_6403c 18 = .ok (.invokestatic 95, 3) := by decide +kernel
theorem dJ7_copyOf_6403c_21 : decode cJ7_copyOf_6403c 21 = .ok (.checkcast 110, 3) := by decide +kernel
theorem dJ7_copyOf_6403c_24 : decode cJ7_copyOf_6403c 24 = .ok (.astore_n 3, 1) := by decide +kernel
theorem dJ7_copyOf_6403c_25 : decode cJ7_copyOf_6403c 25 = .ok (.aload_n 0, 1) := by decide +kernel
theorem dJ7_copyOf_6403c_26 : decode cJ7_copyOf_6403c 26 = .ok (.iconst 0, 1) := by decide +kernel
theorem dJ7_copyOf_6403c_27 : decode cJ7_copyOf_6403c 27 = .ok (.aload_n 3, 1) := by decide +kernel
theorem dJ7_copyOf_6403c_28 : decode cJ7_copyOf_6403c 28 = .ok (.iconst 0, 1) := by decide +kernel
theorem dJ7_copyOf_6403c_29 : decode cJ7_copyOf_6403c 29 = .ok (.aload_n 0, 1) := by decide +kernel
theorem dJ7_copyOf_6403c_30 : decode cJ7_copyOf_6403c 30 = .ok (.arraylength, 1) := by decide +kernel
theorem dJ7_copyOf_6403c_31 : decode cJ7_copyOf_6403c 31 = .ok (.iload_n 1, 1) := by decide +kernel
theorem dJ7_copyOf_6403c_32 : decode cJ7_copyOf_6403c 32 = .ok (.invokestatic 304, 3) := by decide +kernel
theorem dJ7_copyOf_6403c_35 : decode cJ7_copyOf_6403c 35 = .ok (.invokestatic 150, 3) := by decide +kernel
theorem dJ7_copyOf_6403c_38 : decode cJ7_copyOf_6403c 38 = .ok (.aload_n 3, 1) := by decide +kernel
theorem dJ7_copyOf_6403c_39 : decode cJ7_copyOf_6403c 39 = .ok (.areturn, 1) := by decide +kernel
theorem dJ15_checkIndex_7cf53_0 : decode cJ15_checkIndex_7cf53 0 = .ok (.iload_n 0, 1) := by decide +kernel
theorem dJ15_checkIndex_7cf53_1 : decode cJ15_checkIndex_7cf53 1 = .ok (.iload_n 1, 1) := by decide +kernel
theorem dJ15_checkIndex_7cf53_2 : decode cJ15_checkIndex_7cf53 2 = .ok (.aconst_null, 1) := by decide +kernel
theorem dJ15_checkIndex_7cf53_3 : decode cJ15_checkIndex_7cf53 3 = .ok (.invokestatic 105, 3) := by decide +kernel
theorem dJ15_checkIndex_7cf53_6 : decode cJ15_checkIndex_7cf53 6 = .ok (.ireturn, 1) := by decide +kernel
theorem dJ8_newLength_cabcc_0 : decode cJ8_newLength_cabcc 0 = .ok (.iload_n 0, 1) := by decide +kernel
theorem dJ8_newLength_cabcc_1 : decode cJ8_newLength_cabcc 1 = .ok (.iload_n 1, 1) := by decide +kernel
theorem dJ8_newLength_cabcc_2 : decode cJ8_newLength_cabcc 2 = .ok (.iload_n 2, 1) := by decide +kernel
theorem dJ8_newLength_cabcc_3 : decode cJ8_newLength_cabcc 3 = .ok (.invokestatic 194, 3) := by decide +kernel
theorem dJ8_newLength_cabcc_6 : decode cJ8_newLength_cabcc 6 = .ok (.iadd, 1) := by decide +kernel
theorem dJ8_newLength_cabcc_7 : decode cJ8_newLength_cabcc 7 = .ok (.istore_n 3, 1) := by decide +kernel
theorem dJ8_newLength_cabcc_8 : decode cJ8_newLength_cabcc 8 = .ok (.iconst 0, 1) := by decide +kernel
theorem dJ8_newLength_cabcc_9 : decode cJ8_newLength_cabcc 9 = .ok (.iload_n 3, 1) := by decide +kernel
theorem dJ8_newLength_cabcc_10 : decode cJ8_newLength_cabcc 10 = .ok (.if_icmp .ge 11, 3) := by decide +kernel
theorem dJ8_newLength_cabcc_13 : decode cJ8_newLength_cabcc 13 = .ok (.iload_n 3, 1) := by decide +kernel
theorem dJ8_newLength_cabcc_14 : decode cJ8_newLength_cabcc 14 = .ok (.ldc 200, 2) := by decide +kernel
theorem dJ8_newLength_cabcc_16 : decode cJ8_newLength_cabcc 16 = .ok (.if_icmp .gt 5, 3) := by decide +kernel
theorem dJ8_newLength_cabcc_19 : decode cJ8_newLength_cabcc 19 = .ok (.iload_n 3, 1) := by decide +kernel
theorem dJ8_newLength_cabcc_20 : decode cJ8_newLength_cabcc 20 = .ok (.ireturn, 1) := by decide +kernel
theorem dJ8_newLength_cabcc_21 : decode cJ8_newLength_cabcc 21 = .ok (.iload_n 0, 1) := by decide +kernel
theorem dJ8_newLength_cabcc_22 : decode cJ8_newLength_cabcc 22 = .ok (.iload_n 1, 1) := by decide +kernel
theorem dJ8_newLength_cabcc_23 : decode cJ8_newLength_cabcc 23 = .ok (.invokestatic 201, 3) := by decide +kernel
theorem dJ8_newLength_cabcc_26 : decode cJ8_newLength_cabcc 26 = .ok (.ireturn, 1) := by decide +kernel
theorem dJ8_hugeLength_7cf53_0 : decode cJ8_hugeLength_7cf53 0 = .ok (.iload_n 0, 1) := by decide +kernel
theorem dJ8_hugeLength_7cf53_1 : decode cJ8_hugeLength_7cf53 1 = .ok (.iload_n 1, 1) := by decide +kernel
theorem dJ8_hugeLength_7cf53_2 : decode cJ8_hugeLength_7cf53 2 = .ok (.iadd, 1) := by decide +kernel
theorem dJ8_hugeLength_7cf53_3 : decode cJ8_hugeLength_7cf53 3 = .ok (.istore_n 2, 1) := by decide +kernel
theorem dJ8_hugeLength_7cf53_4 : decode cJ8_hugeLength_7cf53 4 = .ok (.iload_n 2, 1) := by decide +kernel
theorem dJ8_hugeLength_7cf53_5 : decode cJ8_hugeLength_7cf53 5 = .ok (.ifCond .ge 44, 3) := by decide +kernel
theorem dJ8_hugeLength_7cf53_8 : decode cJ8_hugeLength_7cf53 8 = .ok (.new 204, 3) := by decide +kernel
theorem dJ8_hugeLength_7cf53_11 : decode cJ8_hugeLength_7cf53 11 = .ok (.dup, 1) := by decide +kernel
theorem dJ8_hugeLength_7cf53_12 : decode cJ8_hugeLength_7cf53 12 = .ok (.new 89, 3) := by decide +kernel
theorem dJ8_hugeLength_7cf53_15 : decode cJ8_hugeLength_7cf53 15 = .ok (.dup, 1) := by decide +kernel
theorem dJ8_hugeLength_7cf53_16 : decode cJ8_hugeLength_7cf53 16 = .ok (.invokespecial 91, 3) := by decide +kernel
theorem dJ8_hugeLength_7cf53_19 : decode cJ8_hugeLength_7cf53 19 = .ok (.ldc 206, 2) := by decide +kernel
theorem dJ8_hugeLength_7cf53_21 : decode cJ8_hugeLength_7cf53 21 = .ok (.invokevirtual 94, 3) := by decide +kernel
theorem dJ8_hugeLength_7cf53_24 : decode cJ8_hugeLength_7cf53 24 = .ok (.iload_n 0, 1) := by decide +kernel
theorem dJ8_hugeLength_7cf53_25 : decode cJ8_hugeLength_7cf53 25 = .ok (.invokevirtual 98, 3) := by decide +kernel
theorem dJ8_hugeLength_7cf53_28 : decode cJ8_hugeLength_7cf53 28 = .ok (.ldc 208, 2) := by decide +kernel
theorem dJ8_hugeLength_7cf53_30 : decode cJ8_hugeLength_7cf53 30 = .ok (.invokevirtual 94, 3) := by decide +kernel
theorem dJ8_hugeLength_7cf53_33 : decode cJ8_hugeLength_7cf53 33 = .ok (.iload_n 1, 1) := by decide +kernel
theorem dJ8_hugeLength_7cf53_34 : decode cJ8_hugeLength_7cf53 34 = .ok (.invokevirtual 98, 3) := by decide +kernel
theorem dJ8_hugeLength_7cf53_37 : decode cJ8_hugeLength_7cf53 37 = .ok (.ldc 210, 2) := by decide +kernel
theorem dJ8_hugeLength_7cf53_39 : decode cJ8_hugeLength_7cf53 39 = .ok (.invokevirtual 94, 3) := by decide +kernel
theorem dJ8_hugeLength_7cf53_42 : decode cJ8_hugeLength_7cf53 42 = .ok (.invokevirtual 101, 3) := by decide +kernel
theorem dJ8_hugeLength_7cf53_45 : decode cJ8_hugeLength_7cf53 45 = .ok (.invokespecial 212, 3) := by decide +kernel
theorem dJ8_hugeLength_7cf53_48 : decode cJ8_hugeLength_7cf53 48 = .ok (.athrow, 1) := by decide +kernel
theorem dJ8_hugeLength_7cf53_49 : decode cJ8_hugeLength_7cf53 49 = .ok (.iload_n 2, 1) := by decide +kernel
theorem dJ8_hugeLength_7cf53_50 : decode cJ8_hugeLength_7cf53 50 = .ok (.ldc 200, 2) := by decide +kernel
theorem dJ8_hugeLength_7cf53_52 : decode cJ8_hugeLength_7cf53 52 = .ok (.if_icmp .gt 6, 3) := by decide +kernel
theorem dJ8_hugeLength_7cf53_55 : decode cJ8_hugeLength_7cf53 55 = .ok (.ldc 200, 2) := by decide +kernel
theorem dJ8_hugeLength_7cf53_57 : decode cJ8_hugeLength_7cf53 57 = .ok (.ireturn, 1) := by decide +kernel
theorem dJ8_hugeLength_7cf53_58 : decode cJ8_hugeLength_7cf53 58 = .ok (.iload_n 2, 1) := by decide +kernel
theorem dJ8_hugeLength_7cf53_59 : decode cJ8_hugeLength_7cf53 59 = .ok (.ireturn, 1) := by decide +kernel
theorem dJ3_checkIndex_8e157_0 : decode cJ3_checkIndex_8e157 0 = .ok (.iload_n 0, 1) := by decide +kernel
theorem dJ3_checkIndex_8e157_1 : decode cJ3_checkIndex_8e157 1 = .ok (.ifCond .lt 8, 3) := by decide +kernel
theorem dJ3_checkIndex_8e157_4 : decode cJ3_checkIndex_8e157 4 = .ok (.iload_n 0, 1) := by decide +kernel
theorem dJ3_checkIndex_8e157_5 : decode cJ3_checkIndex_8e157 5 = .ok (.iload_n 1, 1) := by decide +kernel
theorem dJ3_checkIndex_8e157_6 : decode cJ3_checkIndex_8e157 6 = .ok (.if_icmp .lt 10, 3) := by decide +kernel
theorem dJ3_checkIndex_8e157_9 : decode cJ3_checkIndex_8e157 9 = .ok (.aload_n 2, 1) := by decide +kernel
theorem dJ3_checkIndex_8e157_10 : decode cJ3_checkIndex_8e157 10 = .ok (.iload_n 0, 1) := by decide +kernel
theorem dJ3_checkIndex_8e157_11 : decode cJ3_checkIndex_8e157 11 = .ok (.iload_n 1, 1) := by decide +kernel
theorem dJ3_checkIndex_8e157_12 : decode cJ3_checkIndex_8e157 12 = .ok (.invokestatic 95, 3) := by decide +kernel
theorem dJ3_checkIndex_8e157_15 : decode cJ3_checkIndex_8e157 15 = .ok (.athrow, 1) := by decide +kernel
theorem dJ3_checkIndex_8e157_16 : decode cJ3_checkIndex_8e157 16 = .ok (.iload_n 0, 1) := by decide +kernel
theorem dJ3_checkIndex_8e157_17 : decode cJ3_checkIndex_8e157 17 = .ok (.ireturn, 1) := by decide +kernel
theorem dL_addPackage_0 : decode cL_addPackage 0 = .ok (.aload_n 2, 1) := by decide +kernel
theorem dL_addPackage_1 : decode cL_addPackage 1 = .ok (.iconst 0, 1) := by decide +kernel
theorem dL_addPackage_2 : decode cL_addPackage 2 = .ok (.aload_n 0, 1) := by decide +kernel
theorem dL_addPackage_3 : decode cL_addPackage 3 = .ok (.iload_n 1, 1) := by decide +kernel
theorem dL_addPackage_4 : decode cL_addPackage 4 = .ok (.invokevirtual 7, 3) := by decide +kernel
theorem dL_addPackage_7 : decode cL_addPackage 7 = .ok (.i2l, 1) := by decide +kernel
theorem dL_addPackage_8 : decode cL_addPackage 8 = .ok (.lastore, 1) := by decide +kernel
theorem dL_addPackage_9 : decode cL_addPackage 9 = .ok (.goto 9, 3) := by decide +kernel
theorem dL_addPackage_12 : decode cL_addPackage 12 = .ok (.astore_n 3, 1) := by decide +kernel
theorem dL_addPackage_13 : decode cL_addPackage 13 = .ok (.iconst 1, 1) := by decide +kernel
theorem dL_addPackage_14 : decode cL_addPackage 14 = .ok (.ireturn, 1) := by decide +kernel
theorem dL_addPackage_15 : decode cL_addPackage 15 = .ok (.astore_n 3, 1) := by decide +kernel
theorem dL_addPackage_16 : decode cL_addPackage 16 = .ok (.iconst 2, 1) := by decide +kernel
theorem dL_addPackage_17 : decode cL_addPackage 17 = .ok (.ireturn, 1) := by decide +kernel
theorem dL_addPackage_18 : decode cL_addPackage 18 = .ok (.iconst 0, 1) := by decide +kernel
theorem dL_addPackage_19 : decode cL_addPackage 19 = .ok (.ireturn, 1) := by decide +kernel
theorem dL_setSource_0 : decode cL_setSource 0 = .ok (.aload 4, 2) := by decide +kernel
theorem dL_setSource_2 : decode cL_setSource 2 = .ok (.iconst 0, 1) := by decide +kernel
theorem dL_setSource_3 : decode cL_setSource 3 = .ok (.aload_n 0, 1) := by decide +kernel
theorem dL_setSource_4 : decode cL_setSource 4 = .ok (.iload_n 1, 1) := by decide +kernel
theorem dL_setSource_5 : decode cL_setSource 5 = .ok (.iload_n 2, 1) := by decide +kernel
theorem dL_setSource_6 : decode cL_setSource 6 = .ok (.iload_n 3, 1) := by decide +kernel
theorem dL_setSource_7 : decode cL_setSource 7 = .ok (.invokevirtual 17, 3) := by decide +kernel
theorem dL_setSource_10 : decode cL_setSource 10 = .ok (.i2l, 1) := by decide +kernel
theorem dL_setSource_11 : decode cL_setSource 11 = .ok (.lastore, 1) := by decide +kernel
theorem dL_setSource_12 : decode cL_setSource 12 = .ok (.goto 11, 3) := by decide +kernel
theorem dL_setSource_15 : decode cL_setSource 15 = .ok (.astore 5, 2) := by decide +kernel
theorem dL_setSource_17 : decode cL_setSource 17 = .ok (.iconst 1, 1) := by decide +kernel
theorem dL_setSource_18 : decode cL_setSource 18 = .ok (.ireturn, 1) := by decide +kernel
theorem dL_setSource_19 : decode cL_setSource 19 = .ok (.astore 5, 2) := by decide +kernel
theorem dL_setSource_21 : decode cL_setSource 21 = .ok (.iconst 2, 1) := by decide +kernel
theorem dL_setSource_22 : decode cL_setSource 22 = .ok (.ireturn, 1) := by decide +kernel
theorem dL_setSource_23 : decode cL_setSource 23 = .ok (.iconst 0, 1) := by decide +kernel
theorem dL_setSource_24 : decode cL_setSource 24 = .ok (.ireturn, 1) := by decide +kernel
theorem dL_need_0 : decode cL_need 0 = .ok (.aload 5, 2) := by decide +kernel
theorem dL_need_2 : decode cL_need 2 = .ok (.iconst 0, 1) := by decide +kernel
theorem dL_need_3 : decode cL_need 3 = .ok (.aload_n 0, 1) := by decide +kernel
theorem dL_need_4 : decode cL_need 4 = .ok (.iload_n 1, 1) := by decide +kernel
theorem dL_need_5 : decode cL_need 5 = .ok (.iload_n 2, 1) := by decide +kernel
theorem dL_need_6 : decode cL_need 6 = .ok (.iload_n 3, 1) := by decide +kernel
theorem dL_need_7 : decode cL_need 7 = .ok (.iload 4, 2) := by decide +kernel
theorem dL_need_9 : decode cL_need 9 = .ok (.invokevirtual 23, 3) := by decide +kernel
theorem dL_need_12 : decode cL_need 12 = .ok (.i2l, 1) := by decide +kernel
theorem dL_need_13 : decode cL_need 13 = .ok (.lastore, 1) := by decide +kernel
theorem dL_need_14 : decode cL_need 14 = .ok (.goto 11, 3) := by decide +kernel
theorem dL_need_17 : decode cL_need 17 = .ok (.astore 6, 2) := by decide +kernel
theorem dL_need_19 : decode cL_need 19 = .ok (.iconst 1, 1) := by decide +kernel
theorem dL_need_20 : decode cL_need 20 = .ok (.ireturn, 1) := by decide +kernel
theorem dL_need_21 : decode cL_need 21 = .ok (.astore 6, 2) := by decide +kernel
theorem dL_need_23 : decode cL_need 23 = .ok (.iconst 2, 1) := by decide +kernel
theorem dL_need_24 : decode cL_need 24 = .ok (.ireturn, 1) := by decide +kernel
theorem dL_need_25 : decode cL_need 25 = .ok (.iconst 0, 1) := by decide +kernel
theorem dL_need_26 : decode cL_need 26 = .ok (.ireturn, 1) := by decide +kernel
theorem dL_dropNeed_0 : decode cL_dropNeed 0 = .ok (.aload_n 3, 1) := by decide +kernel
theorem dL_dropNeed_1 : decode cL_dropNeed 1 = .ok (.iconst 0, 1) := by decide +kernel
theorem dL_dropNeed_2 : decode cL_dropNeed 2 = .ok (.aload_n 0, 1) := by decide +kernel
theorem dL_dropNeed_3 : decode cL_dropNeed 3 = .ok (.iload_n 1, 1) := by decide +kernel
theorem dL_dropNeed_4 : decode cL_dropNeed 4 = .ok (.iload_n 2, 1) := by decide +kernel
theorem dL_dropNeed_5 : decode cL_dropNeed 5 = .ok (.invokevirtual 27, 3) := by decide +kernel
theorem dL_dropNeed_8 : decode cL_dropNeed 8 = .ok (.i2l, 1) := by decide +kernel
theorem dL_dropNeed_9 : decode cL_dropNeed 9 = .ok (.lastore, 1) := by decide +kernel
theorem dL_dropNeed_10 : decode cL_dropNeed 10 = .ok (.goto 11, 3) := by decide +kernel
theorem dL_dropNeed_13 : decode cL_dropNeed 13 = .ok (.astore 4, 2) := by decide +kernel
theorem dL_dropNeed_15 : decode cL_dropNeed 15 = .ok (.iconst 1, 1) := by decide +kernel
theorem dL_dropNeed_16 : decode cL_dropNeed 16 = .ok (.ireturn, 1) := by decide +kernel
theorem dL_dropNeed_17 : decode cL_dropNeed 17 = .ok (.astore 4, 2) := by decide +kernel
theorem dL_dropNeed_19 : decode cL_dropNeed 19 = .ok (.iconst 2, 1) := by decide +kernel
theorem dL_dropNeed_20 : decode cL_dropNeed 20 = .ok (.ireturn, 1) := by decide +kernel
theorem dL_dropNeed_21 : decode cL_dropNeed 21 = .ok (.iconst 0, 1) := by decide +kernel
theorem dL_dropNeed_22 : decode cL_dropNeed 22 = .ok (.ireturn, 1) := by decide +kernel
theorem dL_chosen_0 : decode cL_chosen 0 = .ok (.aload_n 3, 1) := by decide +kernel
theorem dL_chosen_1 : decode cL_chosen 1 = .ok (.iconst 0, 1) := by decide +kernel
theorem dL_chosen_2 : decode cL_chosen 2 = .ok (.aload_n 0, 1) := by decide +kernel
theorem dL_chosen_3 : decode cL_chosen 3 = .ok (.iload_n 1, 1) := by decide +kernel
theorem dL_chosen_4 : decode cL_chosen 4 = .ok (.iload_n 2, 1) := by decide +kernel
theorem dL_chosen_5 : decode cL_chosen 5 = .ok (.invokevirtual 33, 3) := by decide +kernel
theorem dL_chosen_8 : decode cL_chosen 8 = .ok (.i2l, 1) := by decide +kernel
theorem dL_chosen_9 : decode cL_chosen 9 = .ok (.lastore, 1) := by decide +kernel
theorem dL_chosen_10 : decode cL_chosen 10 = .ok (.goto 11, 3) := by decide +kernel
theorem dL_chosen_13 : decode cL_chosen 13 = .ok (.astore 4, 2) := by decide +kernel
theorem dL_chosen_15 : decode cL_chosen 15 = .ok (.iconst 1, 1) := by decide +kernel
theorem dL_chosen_16 : decode cL_chosen 16 = .ok (.ireturn, 1) := by decide +kernel
theorem dL_chosen_17 : decode cL_chosen 17 = .ok (.astore 4, 2) := by decide +kernel
theorem dL_chosen_19 : decode cL_chosen 19 = .ok (.iconst 2, 1) := by decide +kernel
theorem dL_chosen_20 : decode cL_chosen 20 = .ok (.ireturn, 1) := by decide +kernel
theorem dL_chosen_21 : decode cL_chosen 21 = .ok (.iconst 0, 1) := by decide +kernel
theorem dL_chosen_22 : decode cL_chosen 22 = .ok (.ireturn, 1) := by decide +kernel
theorem dL_chosenByAll_0 : decode cL_chosenByAll 0 = .ok (.aload_n 3, 1) := by decide +kernel
theorem dL_chosenByAll_1 : decode cL_chosenByAll 1 = .ok (.iconst 0, 1) := by decide +kernel
theorem dL_chosenByAll_2 : decode cL_chosenByAll 2 = .ok (.aload_n 0, 1) := by decide +kernel
theorem dL_chosenByAll_3 : decode cL_chosenByAll 3 = .ok (.iload_n 1, 1) := by decide +kernel
theorem dL_chosenByAll_4 : decode cL_chosenByAll 4 = .ok (.iload_n 2, 1) := by decide +kernel
theorem dL_chosenByAll_5 : decode cL_chosenByAll 5 = .ok (.invokevirtual 38, 3) := by decide +kernel
theorem dL_chosenByAll_8 : decode cL_chosenByAll 8 = .ok (.i2l, 1) := by decide +kernel
theorem dL_chosenByAll_9 : decode cL_chosenByAll 9 = .ok (.lastore, 1) := by decide +kernel
theorem dL_chosenByAll_10 : decode cL_chosenByAll 10 = .ok (.goto 11, 3) := by decide +kernel
theorem dL_chosenByAll_13 : decode cL_chosenByAll 13 = .ok (.astore 4, 2) := by decide +kernel
theorem dL_chosenByAll_15 : decode cL_chosenByAll 15 = .ok (.iconst 1, 1) := by decide +kernel
theorem dL_chosenByAll_16 : decode cL_chosenByAll 16 = .ok (.ireturn, 1) := by decide +kernel
theorem dL_chosenByAll_17 : decode cL_chosenByAll 17 = .ok (.astore 4, 2) := by decide +kernel
theorem dL_chosenByAll_19 : decode cL_chosenByAll 19 = .ok (.iconst 2, 1) := by decide +kernel
theorem dL_chosenByAll_20 : decode cL_chosenByAll 20 = .ok (.ireturn, 1) := by decide +kernel
theorem dL_chosenByAll_21 : decode cL_chosenByAll 21 = .ok (.iconst 0, 1) := by decide +kernel
theorem dL_chosenByAll_22 : decode cL_chosenByAll 22 = .ok (.ireturn, 1) := by decide +kernel
theorem dL_compile_0 : decode cL_compile 0 = .ok (.aload_n 2, 1) := by decide +kernel
theorem dL_compile_1 : decode cL_compile 1 = .ok (.iconst 0, 1) := by decide +kernel
theorem dL_compile_2 : decode cL_compile 2 = .ok (.aload_n 0, 1) := by decide +kernel
theorem dL_compile_3 : decode cL_compile 3 = .ok (.iload_n 1, 1) := by decide +kernel
theorem dL_compile_4 : decode cL_compile 4 = .ok (.invokevirtual 41, 3) := by decide +kernel
theorem dL_compile_7 : decode cL_compile 7 = .ok (.ifCond .eq 7, 3) := by decide +kernel
theorem dL_compile_10 : decode cL_compile 10 = .ok (.lconst 1, 1) := by decide +kernel
theorem dL_compile_11 : decode cL_compile 11 = .ok (.goto 4, 3) := by decide +kernel
theorem dL_compile_14 : decode cL_compile 14 = .ok (.lconst 0, 1) := by decide +kernel
theorem dL_compile_15 : decode cL_compile 15 = .ok (.lastore, 1) := by decide +kernel
theorem dL_compile_16 : decode cL_compile 16 = .ok (.goto 9, 3) := by decide +kernel
theorem dL_compile_19 : decode cL_compile 19 = .ok (.astore_n 3, 1) := by decide +kernel
theorem dL_compile_20 : decode cL_compile 20 = .ok (.iconst 1, 1) := by decide +kernel
theorem dL_compile_21 : decode cL_compile 21 = .ok (.ireturn, 1) := by decide +kernel
theorem dL_compile_22 : decode cL_compile 22 = .ok (.astore_n 3, 1) := by decide +kernel
theorem dL_compile_23 : decode cL_compile 23 = .ok (.iconst 2, 1) := by decide +kernel
theorem dL_compile_24 : decode cL_compile 24 = .ok (.ireturn, 1) := by decide +kernel
theorem dL_compile_25 : decode cL_compile 25 = .ok (.iconst 0, 1) := by decide +kernel
theorem dL_compile_26 : decode cL_compile 26 = .ok (.ireturn, 1) := by decide +kernel
theorem dL_addTest_0 : decode cL_addTest 0 = .ok (.aload_n 3, 1) := by decide +kernel
theorem dL_addTest_1 : decode cL_addTest 1 = .ok (.iconst 0, 1) := by decide +kernel
theorem dL_addTest_2 : decode cL_addTest 2 = .ok (.aload_n 0, 1) := by decide +kernel
theorem dL_addTest_3 : decode cL_addTest 3 = .ok (.iload_n 1, 1) := by decide +kernel
theorem dL_addTest_4 : decode cL_addTest 4 = .ok (.iload_n 2, 1) := by decide +kernel
theorem dL_addTest_5 : decode cL_addTest 5 = .ok (.invokevirtual 45, 3) := by decide +kernel
theorem dL_addTest_8 : decode cL_addTest 8 = .ok (.i2l, 1) := by decide +kernel
theorem dL_addTest_9 : decode cL_addTest 9 = .ok (.lastore, 1) := by decide +kernel
theorem dL_addTest_10 : decode cL_addTest 10 = .ok (.goto 15, 3) := by decide +kernel
theorem dL_addTest_13 : decode cL_addTest 13 = .ok (.astore 4, 2) := by decide +kernel
theorem dL_addTest_15 : decode cL_addTest 15 = .ok (.iconst 1, 1) := by decide +kernel
theorem dL_addTest_16 : decode cL_addTest 16 = .ok (.ireturn, 1) := by decide +kernel
theorem dL_addTest_17 : decode cL_addTest 17 = .ok (.astore 4, 2) := by decide +kernel
theorem dL_addTest_19 : decode cL_addTest 19 = .ok (.iconst 2, 1) := by decide +kernel
theorem dL_addTest_20 : decode cL_addTest 20 = .ok (.ireturn, 1) := by decide +kernel
theorem dL_addTest_21 : decode cL_addTest 21 = .ok (.astore 4, 2) := by decide +kernel
theorem dL_addTest_23 : decode cL_addTest 23 = .ok (.iconst 3, 1) := by decide +kernel
theorem dL_addTest_24 : decode cL_addTest 24 = .ok (.ireturn, 1) := by decide +kernel
theorem dL_addTest_25 : decode cL_addTest 25 = .ok (.iconst 0, 1) := by decide +kernel
theorem dL_addTest_26 : decode cL_addTest 26 = .ok (.ireturn, 1) := by decide +kernel
theorem dL_setFailing_0 : decode cL_setFailing 0 = .ok (.aload_n 3, 1) := by decide +kernel
theorem dL_setFailing_1 : decode cL_setFailing 1 = .ok (.iconst 0, 1) := by decide +kernel
theorem dL_setFailing_2 : decode cL_setFailing 2 = .ok (.aload_n 0, 1) := by decide +kernel
theorem dL_setFailing_3 : decode cL_setFailing 3 = .ok (.iload_n 1, 1) := by decide +kernel
theorem dL_setFailing_4 : decode cL_setFailing 4 = .ok (.iload_n 2, 1) := by decide +kernel
theorem dL_setFailing_5 : decode cL_setFailing 5 = .ok (.invokevirtual 48, 3) := by decide +kernel
theorem dL_setFailing_8 : decode cL_setFailing 8 = .ok (.ifCond .eq 7, 3) := by decide +kernel
theorem dL_setFailing_11 : decode cL_setFailing 11 = .ok (.lconst 1, 1) := by decide +kernel
theorem dL_setFailing_12 : decode cL_setFailing 12 = .ok (.goto 4, 3) := by decide +kernel
theorem dL_setFailing_15 : decode cL_setFailing 15 = .ok (.lconst 0, 1) := by decide +kernel
theorem dL_setFailing_16 : decode cL_setFailing 16 = .ok (.lastore, 1) := by decide +kernel
theorem dL_setFailing_17 : decode cL_setFailing 17 = .ok (.goto 7, 3) := by decide +kernel
theorem dL_setFailing_20 : decode cL_setFailing 20 = .ok (.astore 4, 2) := by decide +kernel
theorem dL_setFailing_22 : decode cL_setFailing 22 = .ok (.iconst 1, 1) := by decide +kernel
theorem dL_setFailing_23 : decode cL_setFailing 23 = .ok (.ireturn, 1) := by decide +kernel
theorem dL_setFailing_24 : decode cL_setFailing 24 = .ok (.iconst 0, 1) := by decide +kernel
theorem dL_setFailing_25 : decode cL_setFailing 25 = .ok (.ireturn, 1) := by decide +kernel
theorem dL_setMachines_0 : decode cL_setMachines 0 = .ok (.aload_n 2, 1) := by decide +kernel
theorem dL_setMachines_1 : decode cL_setMachines 1 = .ok (.iconst 0, 1) := by decide +kernel
theorem dL_setMachines_2 : decode cL_setMachines 2 = .ok (.aload_n 0, 1) := by decide +kernel
theorem dL_setMachines_3 : decode cL_setMachines 3 = .ok (.iload_n 1, 1) := by decide +kernel
theorem dL_setMachines_4 : decode cL_setMachines 4 = .ok (.invokevirtual 52, 3) := by decide +kernel
theorem dL_setMachines_7 : decode cL_setMachines 7 = .ok (.i2l, 1) := by decide +kernel
theorem dL_setMachines_8 : decode cL_setMachines 8 = .ok (.lastore, 1) := by decide +kernel
theorem dL_setMachines_9 : decode cL_setMachines 9 = .ok (.goto 6, 3) := by decide +kernel
theorem dL_setMachines_12 : decode cL_setMachines 12 = .ok (.astore_n 3, 1) := by decide +kernel
theorem dL_setMachines_13 : decode cL_setMachines 13 = .ok (.iconst 1, 1) := by decide +kernel
theorem dL_setMachines_14 : decode cL_setMachines 14 = .ok (.ireturn, 1) := by decide +kernel
theorem dL_setMachines_15 : decode cL_setMachines 15 = .ok (.iconst 0, 1) := by decide +kernel
theorem dL_setMachines_16 : decode cL_setMachines 16 = .ok (.ireturn, 1) := by decide +kernel
theorem dL_fund_0 : decode cL_fund 0 = .ok (.aload_n 3, 1) := by decide +kernel
theorem dL_fund_1 : decode cL_fund 1 = .ok (.iconst 0, 1) := by decide +kernel
theorem dL_fund_2 : decode cL_fund 2 = .ok (.aload_n 0, 1) := by decide +kernel
theorem dL_fund_3 : decode cL_fund 3 = .ok (.iload_n 1, 1) := by decide +kernel
theorem dL_fund_4 : decode cL_fund 4 = .ok (.iload_n 2, 1) := by decide +kernel
theorem dL_fund_5 : decode cL_fund 5 = .ok (.invokevirtual 55, 3) := by decide +kernel
theorem dL_fund_8 : decode cL_fund 8 = .ok (.i2l, 1) := by decide +kernel
theorem dL_fund_9 : decode cL_fund 9 = .ok (.lastore, 1) := by decide +kernel
theorem dL_fund_10 : decode cL_fund 10 = .ok (.goto 7, 3) := by decide +kernel
theorem dL_fund_13 : decode cL_fund 13 = .ok (.astore 4, 2) := by decide +kernel
theorem dL_fund_15 : decode cL_fund 15 = .ok (.iconst 1, 1) := by decide +kernel
theorem dL_fund_16 : decode cL_fund 16 = .ok (.ireturn, 1) := by decide +kernel
theorem dL_fund_17 : decode cL_fund 17 = .ok (.iconst 0, 1) := by decide +kernel
theorem dL_fund_18 : decode cL_fund 18 = .ok (.ireturn, 1) := by decide +kernel
theorem dL_budget_0 : decode cL_budget 0 = .ok (.aload_n 2, 1) := by decide +kernel
theorem dL_budget_1 : decode cL_budget 1 = .ok (.iconst 0, 1) := by decide +kernel
theorem dL_budget_2 : decode cL_budget 2 = .ok (.aload_n 0, 1) := by decide +kernel
theorem dL_budget_3 : decode cL_budget 3 = .ok (.iload_n 1, 1) := by decide +kernel
theorem dL_budget_4 : decode cL_budget 4 = .ok (.invokevirtual 58, 3) := by decide +kernel
theorem dL_budget_7 : decode cL_budget 7 = .ok (.i2l, 1) := by decide +kernel
theorem dL_budget_8 : decode cL_budget 8 = .ok (.lastore, 1) := by decide +kernel
theorem dL_budget_9 : decode cL_budget 9 = .ok (.goto 6, 3) := by decide +kernel
theorem dL_budget_12 : decode cL_budget 12 = .ok (.astore_n 3, 1) := by decide +kernel
theorem dL_budget_13 : decode cL_budget 13 = .ok (.iconst 1, 1) := by decide +kernel
theorem dL_budget_14 : decode cL_budget 14 = .ok (.ireturn, 1) := by decide +kernel
theorem dL_budget_15 : decode cL_budget 15 = .ok (.iconst 0, 1) := by decide +kernel
theorem dL_budget_16 : decode cL_budget 16 = .ok (.ireturn, 1) := by decide +kernel
theorem dL_testTime_0 : decode cL_testTime 0 = .ok (.aload_n 2, 1) := by decide +kernel
theorem dL_testTime_1 : decode cL_testTime 1 = .ok (.iconst 0, 1) := by decide +kernel
theorem dL_testTime_2 : decode cL_testTime 2 = .ok (.aload_n 0, 1) := by decide +kernel
theorem dL_testTime_3 : decode cL_testTime 3 = .ok (.iload_n 1, 1) := by decide +kernel
theorem dL_testTime_4 : decode cL_testTime 4 = .ok (.invokevirtual 61, 3) := by decide +kernel
theorem dL_testTime_7 : decode cL_testTime 7 = .ok (.i2l, 1) := by decide +kernel
theorem dL_testTime_8 : decode cL_testTime 8 = .ok (.lastore, 1) := by decide +kernel
theorem dL_testTime_9 : decode cL_testTime 9 = .ok (.goto 6, 3) := by decide +kernel
theorem dL_testTime_12 : decode cL_testTime 12 = .ok (.astore_n 3, 1) := by decide +kernel
theorem dL_testTime_13 : decode cL_testTime 13 = .ok (.iconst 1, 1) := by decide +kernel
theorem dL_testTime_14 : decode cL_testTime 14 = .ok (.ireturn, 1) := by decide +kernel
theorem dL_testTime_15 : decode cL_testTime 15 = .ok (.iconst 0, 1) := by decide +kernel
theorem dL_testTime_16 : decode cL_testTime 16 = .ok (.ireturn, 1) := by decide +kernel
theorem dL_test_0 : decode cL_test 0 = .ok (.aload_n 2, 1) := by decide +kernel
theorem dL_test_1 : decode cL_test 1 = .ok (.iconst 0, 1) := by decide +kernel
theorem dL_test_2 : decode cL_test 2 = .ok (.aload_n 0, 1) := by decide +kernel
theorem dL_test_3 : decode cL_test 3 = .ok (.iload_n 1, 1) := by decide +kernel
theorem dL_test_4 : decode cL_test 4 = .ok (.invokevirtual 64, 3) := by decide +kernel
theorem dL_test_7 : decode cL_test 7 = .ok (.i2l, 1) := by decide +kernel
theorem dL_test_8 : decode cL_test 8 = .ok (.lastore, 1) := by decide +kernel
theorem dL_test_9 : decode cL_test 9 = .ok (.goto 12, 3) := by decide +kernel
theorem dL_test_12 : decode cL_test 12 = .ok (.astore_n 3, 1) := by decide +kernel
theorem dL_test_13 : decode cL_test 13 = .ok (.iconst 1, 1) := by decide +kernel
theorem dL_test_14 : decode cL_test 14 = .ok (.ireturn, 1) := by decide +kernel
theorem dL_test_15 : decode cL_test 15 = .ok (.astore_n 3, 1) := by decide +kernel
theorem dL_test_16 : decode cL_test 16 = .ok (.iconst 2, 1) := by decide +kernel
theorem dL_test_17 : decode cL_test 17 = .ok (.ireturn, 1) := by decide +kernel
theorem dL_test_18 : decode cL_test 18 = .ok (.astore_n 3, 1) := by decide +kernel
theorem dL_test_19 : decode cL_test 19 = .ok (.iconst 3, 1) := by decide +kernel
theorem dL_test_20 : decode cL_test 20 = .ok (.ireturn, 1) := by decide +kernel
theorem dL_test_21 : decode cL_test 21 = .ok (.iconst 0, 1) := by decide +kernel
theorem dL_test_22 : decode cL_test 22 = .ok (.ireturn, 1) := by decide +kernel
theorem dL_flaky_0 : decode cL_flaky 0 = .ok (.aload_n 2, 1) := by decide +kernel
theorem dL_flaky_1 : decode cL_flaky 1 = .ok (.iconst 0, 1) := by decide +kernel
theorem dL_flaky_2 : decode cL_flaky 2 = .ok (.aload_n 0, 1) := by decide +kernel
theorem dL_flaky_3 : decode cL_flaky 3 = .ok (.iload_n 1, 1) := by decide +kernel
theorem dL_flaky_4 : decode cL_flaky 4 = .ok (.invokevirtual 67, 3) := by decide +kernel
theorem dL_flaky_7 : decode cL_flaky 7 = .ok (.i2l, 1) := by decide +kernel
theorem dL_flaky_8 : decode cL_flaky 8 = .ok (.lastore, 1) := by decide +kernel
theorem dL_flaky_9 : decode cL_flaky 9 = .ok (.goto 6, 3) := by decide +kernel
theorem dL_flaky_12 : decode cL_flaky 12 = .ok (.astore_n 3, 1) := by decide +kernel
theorem dL_flaky_13 : decode cL_flaky 13 = .ok (.iconst 1, 1) := by decide +kernel
theorem dL_flaky_14 : decode cL_flaky 14 = .ok (.ireturn, 1) := by decide +kernel
theorem dL_flaky_15 : decode cL_flaky 15 = .ok (.iconst 0, 1) := by decide +kernel
theorem dL_flaky_16 : decode cL_flaky 16 = .ok (.ireturn, 1) := by decide +kernel
theorem dL_flakiest_0 : decode cL_flakiest 0 = .ok (.aload_n 1, 1) := by decide +kernel
theorem dL_flakiest_1 : decode cL_flakiest 1 = .ok (.iconst 0, 1) := by decide +kernel
theorem dL_flakiest_2 : decode cL_flakiest 2 = .ok (.aload_n 0, 1) := by decide +kernel
theorem dL_flakiest_3 : decode cL_flakiest 3 = .ok (.invokevirtual 70, 3) := by decide +kernel
theorem dL_flakiest_6 : decode cL_flakiest 6 = .ok (.i2l, 1) := by decide +kernel
theorem dL_flakiest_7 : decode cL_flakiest 7 = .ok (.lastore, 1) := by decide +kernel
theorem dL_flakiest_8 : decode cL_flakiest 8 = .ok (.goto 6, 3) := by decide +kernel
theorem dL_flakiest_11 : decode cL_flakiest 11 = .ok (.astore_n 2, 1) := by decide +kernel
theorem dL_flakiest_12 : decode cL_flakiest 12 = .ok (.iconst 1, 1) := by decide +kernel
theorem dL_flakiest_13 : decode cL_flakiest 13 = .ok (.ireturn, 1) := by decide +kernel
theorem dL_flakiest_14 : decode cL_flakiest 14 = .ok (.iconst 0, 1) := by decide +kernel
theorem dL_flakiest_15 : decode cL_flakiest 15 = .ok (.ireturn, 1) := by decide +kernel
theorem dL_canPublish_0 : decode cL_canPublish 0 = .ok (.aload_n 2, 1) := by decide +kernel
theorem dL_canPublish_1 : decode cL_canPublish 1 = .ok (.iconst 0, 1) := by decide +kernel
theorem dL_canPublish_2 : decode cL_canPublish 2 = .ok (.aload_n 0, 1) := by decide +kernel
theorem dL_canPublish_3 : decode cL_canPublish 3 = .ok (.iload_n 1, 1) := by decide +kernel
theorem dL_canPublish_4 : decode cL_canPublish 4 = .ok (.invokevirtual 74, 3) := by decide +kernel
theorem dL_canPublish_7 : decode cL_canPublish 7 = .ok (.ifCond .eq 7, 3) := by decide +kernel
theorem dL_canPublish_10 : decode cL_canPublish 10 = .ok (.lconst 1, 1) := by decide +kernel
theorem dL_canPublish_11 : decode cL_canPublish 11 = .ok (.goto 4, 3) := by decide +kernel
theorem dL_canPublish_14 : decode cL_canPublish 14 = .ok (.lconst 0, 1) := by decide +kernel
theorem dL_canPublish_15 : decode cL_canPublish 15 = .ok (.lastore, 1) := by decide +kernel
theorem dL_canPublish_16 : decode cL_canPublish 16 = .ok (.goto 6, 3) := by decide +kernel
theorem dL_canPublish_19 : decode cL_canPublish 19 = .ok (.astore_n 3, 1) := by decide +kernel
theorem dL_canPublish_20 : decode cL_canPublish 20 = .ok (.iconst 1, 1) := by decide +kernel
theorem dL_canPublish_21 : decode cL_canPublish 21 = .ok (.ireturn, 1) := by decide +kernel
theorem dL_canPublish_22 : decode cL_canPublish 22 = .ok (.iconst 0, 1) := by decide +kernel
theorem dL_canPublish_23 : decode cL_canPublish 23 = .ok (.ireturn, 1) := by decide +kernel
theorem dL_nextVersion_0 : decode cL_nextVersion 0 = .ok (.aload_n 2, 1) := by decide +kernel
theorem dL_nextVersion_1 : decode cL_nextVersion 1 = .ok (.iconst 0, 1) := by decide +kernel
theorem dL_nextVersion_2 : decode cL_nextVersion 2 = .ok (.aload_n 0, 1) := by decide +kernel
theorem dL_nextVersion_3 : decode cL_nextVersion 3 = .ok (.iload_n 1, 1) := by decide +kernel
theorem dL_nextVersion_4 : decode cL_nextVersion 4 = .ok (.invokevirtual 77, 3) := by decide +kernel
theorem dL_nextVersion_7 : decode cL_nextVersion 7 = .ok (.i2l, 1) := by decide +kernel
theorem dL_nextVersion_8 : decode cL_nextVersion 8 = .ok (.lastore, 1) := by decide +kernel
theorem dL_nextVersion_9 : decode cL_nextVersion 9 = .ok (.goto 6, 3) := by decide +kernel
theorem dL_nextVersion_12 : decode cL_nextVersion 12 = .ok (.astore_n 3, 1) := by decide +kernel
theorem dL_nextVersion_13 : decode cL_nextVersion 13 = .ok (.iconst 1, 1) := by decide +kernel
theorem dL_nextVersion_14 : decode cL_nextVersion 14 = .ok (.ireturn, 1) := by decide +kernel
theorem dL_nextVersion_15 : decode cL_nextVersion 15 = .ok (.iconst 0, 1) := by decide +kernel
theorem dL_nextVersion_16 : decode cL_nextVersion 16 = .ok (.ireturn, 1) := by decide +kernel
theorem dL_publish_0 : decode cL_publish 0 = .ok (.aload_n 2, 1) := by decide +kernel
theorem dL_publish_1 : decode cL_publish 1 = .ok (.iconst 0, 1) := by decide +kernel
theorem dL_publish_2 : decode cL_publish 2 = .ok (.aload_n 0, 1) := by decide +kernel
theorem dL_publish_3 : decode cL_publish 3 = .ok (.iload_n 1, 1) := by decide +kernel
theorem dL_publish_4 : decode cL_publish 4 = .ok (.invokevirtual 80, 3) := by decide +kernel
theorem dL_publish_7 : decode cL_publish 7 = .ok (.i2l, 1) := by decide +kernel
theorem dL_publish_8 : decode cL_publish 8 = .ok (.lastore, 1) := by decide +kernel
theorem dL_publish_9 : decode cL_publish 9 = .ok (.goto 12, 3) := by decide +kernel
theorem dL_publish_12 : decode cL_publish 12 = .ok (.astore_n 3, 1) := by decide +kernel
theorem dL_publish_13 : decode cL_publish 13 = .ok (.iconst 1, 1) := by decide +kernel
theorem dL_publish_14 : decode cL_publish 14 = .ok (.ireturn, 1) := by decide +kernel
theorem dL_publish_15 : decode cL_publish 15 = .ok (.astore_n 3, 1) := by decide +kernel
theorem dL_publish_16 : decode cL_publish 16 = .ok (.iconst 2, 1) := by decide +kernel
theorem dL_publish_17 : decode cL_publish 17 = .ok (.ireturn, 1) := by decide +kernel
theorem dL_publish_18 : decode cL_publish 18 = .ok (.astore_n 3, 1) := by decide +kernel
theorem dL_publish_19 : decode cL_publish 19 = .ok (.iconst 3, 1) := by decide +kernel
theorem dL_publish_20 : decode cL_publish 20 = .ok (.ireturn, 1) := by decide +kernel
theorem dL_publish_21 : decode cL_publish 21 = .ok (.iconst 0, 1) := by decide +kernel
theorem dL_publish_22 : decode cL_publish 22 = .ok (.ireturn, 1) := by decide +kernel
theorem dL_yank_0 : decode cL_yank 0 = .ok (.aload_n 3, 1) := by decide +kernel
theorem dL_yank_1 : decode cL_yank 1 = .ok (.iconst 0, 1) := by decide +kernel
theorem dL_yank_2 : decode cL_yank 2 = .ok (.aload_n 0, 1) := by decide +kernel
theorem dL_yank_3 : decode cL_yank 3 = .ok (.iload_n 1, 1) := by decide +kernel
theorem dL_yank_4 : decode cL_yank 4 = .ok (.iload_n 2, 1) := by decide +kernel
theorem dL_yank_5 : decode cL_yank 5 = .ok (.invokevirtual 83, 3) := by decide +kernel
theorem dL_yank_8 : decode cL_yank 8 = .ok (.i2l, 1) := by decide +kernel
theorem dL_yank_9 : decode cL_yank 9 = .ok (.lastore, 1) := by decide +kernel
theorem dL_yank_10 : decode cL_yank 10 = .ok (.goto 15, 3) := by decide +kernel
theorem dL_yank_13 : decode cL_yank 13 = .ok (.astore 4, 2) := by decide +kernel
theorem dL_yank_15 : decode cL_yank 15 = .ok (.iconst 1, 1) := by decide +kernel
theorem dL_yank_16 : decode cL_yank 16 = .ok (.ireturn, 1) := by decide +kernel
theorem dL_yank_17 : decode cL_yank 17 = .ok (.astore 4, 2) := by decide +kernel
theorem dL_yank_19 : decode cL_yank 19 = .ok (.iconst 2, 1) := by decide +kernel
theorem dL_yank_20 : decode cL_yank 20 = .ok (.ireturn, 1) := by decide +kernel
theorem dL_yank_21 : decode cL_yank 21 = .ok (.astore 4, 2) := by decide +kernel
theorem dL_yank_23 : decode cL_yank 23 = .ok (.iconst 3, 1) := by decide +kernel
theorem dL_yank_24 : decode cL_yank 24 = .ok (.ireturn, 1) := by decide +kernel
theorem dL_yank_25 : decode cL_yank 25 = .ok (.iconst 0, 1) := by decide +kernel
theorem dL_yank_26 : decode cL_yank 26 = .ok (.ireturn, 1) := by decide +kernel
theorem dL_isStale_0 : decode cL_isStale 0 = .ok (.aload_n 3, 1) := by decide +kernel
theorem dL_isStale_1 : decode cL_isStale 1 = .ok (.iconst 0, 1) := by decide +kernel
theorem dL_isStale_2 : decode cL_isStale 2 = .ok (.aload_n 0, 1) := by decide +kernel
theorem dL_isStale_3 : decode cL_isStale 3 = .ok (.iload_n 1, 1) := by decide +kernel
theorem dL_isStale_4 : decode cL_isStale 4 = .ok (.iload_n 2, 1) := by decide +kernel
theorem dL_isStale_5 : decode cL_isStale 5 = .ok (.invokevirtual 86, 3) := by decide +kernel
theorem dL_isStale_8 : decode cL_isStale 8 = .ok (.ifCond .eq 7, 3) := by decide +kernel
theorem dL_isStale_11 : decode cL_isStale 11 = .ok (.lconst 1, 1) := by decide +kernel
theorem dL_isStale_12 : decode cL_isStale 12 = .ok (.goto 4, 3) := by decide +kernel
theorem dL_isStale_15 : decode cL_isStale 15 = .ok (.lconst 0, 1) := by decide +kernel
theorem dL_isStale_16 : decode cL_isStale 16 = .ok (.lastore, 1) := by decide +kernel
theorem dL_isStale_17 : decode cL_isStale 17 = .ok (.goto 11, 3) := by decide +kernel
theorem dL_isStale_20 : decode cL_isStale 20 = .ok (.astore 4, 2) := by decide +kernel
theorem dL_isStale_22 : decode cL_isStale 22 = .ok (.iconst 1, 1) := by decide +kernel
theorem dL_isStale_23 : decode cL_isStale 23 = .ok (.ireturn, 1) := by decide +kernel
theorem dL_isStale_24 : decode cL_isStale 24 = .ok (.astore 4, 2) := by decide +kernel
theorem dL_isStale_26 : decode cL_isStale 26 = .ok (.iconst 2, 1) := by decide +kernel
theorem dL_isStale_27 : decode cL_isStale 27 = .ok (.ireturn, 1) := by decide +kernel
theorem dL_isStale_28 : decode cL_isStale 28 = .ok (.iconst 0, 1) := by decide +kernel
theorem dL_isStale_29 : decode cL_isStale 29 = .ok (.ireturn, 1) := by decide +kernel
theorem dL_relock_0 : decode cL_relock 0 = .ok (.aload_n 3, 1) := by decide +kernel
theorem dL_relock_1 : decode cL_relock 1 = .ok (.iconst 0, 1) := by decide +kernel
theorem dL_relock_2 : decode cL_relock 2 = .ok (.aload_n 0, 1) := by decide +kernel
theorem dL_relock_3 : decode cL_relock 3 = .ok (.iload_n 1, 1) := by decide +kernel
theorem dL_relock_4 : decode cL_relock 4 = .ok (.iload_n 2, 1) := by decide +kernel
theorem dL_relock_5 : decode cL_relock 5 = .ok (.invokevirtual 90, 3) := by decide +kernel
theorem dL_relock_8 : decode cL_relock 8 = .ok (.i2l, 1) := by decide +kernel
theorem dL_relock_9 : decode cL_relock 9 = .ok (.lastore, 1) := by decide +kernel
theorem dL_relock_10 : decode cL_relock 10 = .ok (.goto 19, 3) := by decide +kernel
theorem dL_relock_13 : decode cL_relock 13 = .ok (.astore 4, 2) := by decide +kernel
theorem dL_relock_15 : decode cL_relock 15 = .ok (.iconst 1, 1) := by decide +kernel
theorem dL_relock_16 : decode cL_relock 16 = .ok (.ireturn, 1) := by decide +kernel
theorem dL_relock_17 : decode cL_relock 17 = .ok (.astore 4, 2) := by decide +kernel
theorem dL_relock_19 : decode cL_relock 19 = .ok (.iconst 2, 1) := by decide +kernel
theorem dL_relock_20 : decode cL_relock 20 = .ok (.ireturn, 1) := by decide +kernel
theorem dL_relock_21 : decode cL_relock 21 = .ok (.astore 4, 2) := by decide +kernel
theorem dL_relock_23 : decode cL_relock 23 = .ok (.iconst 3, 1) := by decide +kernel
theorem dL_relock_24 : decode cL_relock 24 = .ok (.ireturn, 1) := by decide +kernel
theorem dL_relock_25 : decode cL_relock 25 = .ok (.astore 4, 2) := by decide +kernel
theorem dL_relock_27 : decode cL_relock 27 = .ok (.iconst 4, 1) := by decide +kernel
theorem dL_relock_28 : decode cL_relock 28 = .ok (.ireturn, 1) := by decide +kernel
theorem dL_relock_29 : decode cL_relock 29 = .ok (.iconst 0, 1) := by decide +kernel
theorem dL_relock_30 : decode cL_relock 30 = .ok (.ireturn, 1) := by decide +kernel
theorem dL_locked_0 : decode cL_locked 0 = .ok (.aload 4, 2) := by decide +kernel
theorem dL_locked_2 : decode cL_locked 2 = .ok (.iconst 0, 1) := by decide +kernel
theorem dL_locked_3 : decode cL_locked 3 = .ok (.aload_n 0, 1) := by decide +kernel
theorem dL_locked_4 : decode cL_locked 4 = .ok (.iload_n 1, 1) := by decide +kernel
theorem dL_locked_5 : decode cL_locked 5 = .ok (.iload_n 2, 1) := by decide +kernel
theorem dL_locked_6 : decode cL_locked 6 = .ok (.iload_n 3, 1) := by decide +kernel
theorem dL_locked_7 : decode cL_locked 7 = .ok (.invokevirtual 93, 3) := by decide +kernel
theorem dL_locked_10 : decode cL_locked 10 = .ok (.i2l, 1) := by decide +kernel
theorem dL_locked_11 : decode cL_locked 11 = .ok (.lastore, 1) := by decide +kernel
theorem dL_locked_12 : decode cL_locked 12 = .ok (.goto 11, 3) := by decide +kernel
theorem dL_locked_15 : decode cL_locked 15 = .ok (.astore 5, 2) := by decide +kernel
theorem dL_locked_17 : decode cL_locked 17 = .ok (.iconst 1, 1) := by decide +kernel
theorem dL_locked_18 : decode cL_locked 18 = .ok (.ireturn, 1) := by decide +kernel
theorem dL_locked_19 : decode cL_locked 19 = .ok (.astore 5, 2) := by decide +kernel
theorem dL_locked_21 : decode cL_locked 21 = .ok (.iconst 2, 1) := by decide +kernel
theorem dL_locked_22 : decode cL_locked 22 = .ok (.ireturn, 1) := by decide +kernel
theorem dL_locked_23 : decode cL_locked 23 = .ok (.iconst 0, 1) := by decide +kernel
theorem dL_locked_24 : decode cL_locked 24 = .ok (.ireturn, 1) := by decide +kernel
theorem dL_goodShare_0 : decode cL_goodShare 0 = .ok (.aload_n 1, 1) := by decide +kernel
theorem dL_goodShare_1 : decode cL_goodShare 1 = .ok (.iconst 0, 1) := by decide +kernel
theorem dL_goodShare_2 : decode cL_goodShare 2 = .ok (.aload_n 0, 1) := by decide +kernel
theorem dL_goodShare_3 : decode cL_goodShare 3 = .ok (.invokevirtual 96, 3) := by decide +kernel
theorem dL_goodShare_6 : decode cL_goodShare 6 = .ok (.f2d, 1) := by decide +kernel
theorem dL_goodShare_7 : decode cL_goodShare 7 = .ok (.dastore, 1) := by decide +kernel
theorem dL_goodShare_8 : decode cL_goodShare 8 = .ok (.goto 6, 3) := by decide +kernel
theorem dL_goodShare_11 : decode cL_goodShare 11 = .ok (.astore_n 2, 1) := by decide +kernel
theorem dL_goodShare_12 : decode cL_goodShare 12 = .ok (.iconst 1, 1) := by decide +kernel
theorem dL_goodShare_13 : decode cL_goodShare 13 = .ok (.ireturn, 1) := by decide +kernel
theorem dL_goodShare_14 : decode cL_goodShare 14 = .ok (.iconst 0, 1) := by decide +kernel
theorem dL_goodShare_15 : decode cL_goodShare 15 = .ok (.ireturn, 1) := by decide +kernel
theorem dL_meanPaid_0 : decode cL_meanPaid 0 = .ok (.aload_n 1, 1) := by decide +kernel
theorem dL_meanPaid_1 : decode cL_meanPaid 1 = .ok (.iconst 0, 1) := by decide +kernel
theorem dL_meanPaid_2 : decode cL_meanPaid 2 = .ok (.aload_n 0, 1) := by decide +kernel
theorem dL_meanPaid_3 : decode cL_meanPaid 3 = .ok (.invokevirtual 102, 3) := by decide +kernel
theorem dL_meanPaid_6 : decode cL_meanPaid 6 = .ok (.dastore, 1) := by decide +kernel
theorem dL_meanPaid_7 : decode cL_meanPaid 7 = .ok (.goto 6, 3) := by decide +kernel
theorem dL_meanPaid_10 : decode cL_meanPaid 10 = .ok (.astore_n 2, 1) := by decide +kernel
theorem dL_meanPaid_11 : decode cL_meanPaid 11 = .ok (.iconst 1, 1) := by decide +kernel
theorem dL_meanPaid_12 : decode cL_meanPaid 12 = .ok (.ireturn, 1) := by decide +kernel
theorem dL_meanPaid_13 : decode cL_meanPaid 13 = .ok (.iconst 0, 1) := by decide +kernel
theorem dL_meanPaid_14 : decode cL_meanPaid 14 = .ok (.ireturn, 1) := by decide +kernel
theorem dL_law_0 : decode cL_law 0 = .ok (.new 8, 3) := by decide +kernel
theorem dL_law_3 : decode cL_law 3 = .ok (.dup, 1) := by decide +kernel
theorem dL_law_4 : decode cL_law 4 = .ok (.invokespecial 106, 3) := by decide +kernel
theorem dL_law_7 : decode cL_law 7 = .ok (.astore_n 1, 1) := by decide +kernel
theorem dL_law_8 : decode cL_law 8 = .ok (.new 107, 3) := by decide +kernel
theorem dL_law_11 : decode cL_law 11 = .ok (.dup, 1) := by decide +kernel
theorem dL_law_12 : decode cL_law 12 = .ok (.invokespecial 109, 3) := by decide +kernel
theorem dL_law_15 : decode cL_law 15 = .ok (.astore_n 2, 1) := by decide +kernel
theorem dL_law_16 : decode cL_law 16 = .ok (.iconst 1, 1) := by decide +kernel
theorem dL_law_17 : decode cL_law 17 = .ok (.newarray .long, 2) := by decide +kernel
theorem dL_law_19 : decode cL_law 19 = .ok (.astore_n 3, 1) := by decide +kernel
theorem dL_law_20 : decode cL_law 20 = .ok (.iconst 1, 1) := by decide +kernel
theorem dL_law_21 : decode cL_law 21 = .ok (.newarray .double, 2) := by decide +kernel
theorem dL_law_23 : decode cL_law 23 = .ok (.astore 4, 2) := by decide +kernel
theorem dL_law_25 : decode cL_law 25 = .ok (.iconst 0, 1) := by decide +kernel
theorem dL_law_26 : decode cL_law 26 = .ok (.istore 5, 2) := by decide +kernel
theorem dL_law_28 : decode cL_law 28 = .ok (.iload 5, 2) := by decide +kernel
theorem dL_law_30 : decode cL_law 30 = .ok (.aload_n 0, 1) := by decide +kernel
theorem dL_law_31 : decode cL_law 31 = .ok (.arraylength, 1) := by decide +kernel
theorem dL_law_32 : decode cL_law 32 = .ok (.iconst 5, 1) := by decide +kernel
theorem dL_law_33 : decode cL_law 33 = .ok (.isub, 1) := by decide +kernel
theorem dL_law_34 : decode cL_law 34 = .ok (.if_icmp .gt 1792, 3) := by decide +kernel
theorem dL_law_37 : decode cL_law 37 = .ok (.aload_n 0, 1) := by decide +kernel
theorem dL_law_38 : decode cL_law 38 = .ok (.iload 5, 2) := by decide +kernel
theorem dL_law_40 : decode cL_law 40 = .ok (.iaload, 1) := by decide +kernel
theorem dL_law_41 : decode cL_law 41 = .ok (.bipush 31, 2) := by decide +kernel
theorem dL_law_43 : decode cL_law 43 = .ok (.iand, 1) := by decide +kernel
theorem dL_law_44 : decode cL_law 44 = .ok (.tableswitch 1776 0 25 #[120, 176, 256, 348, 416, 484, 552, 615, 628, 696, 787, 843, 911, 967, 1023, 1079, 1135, 1179, 1242, 1298, 1354, 1422, 1497, 1565, 1645, 1711], 120) := by decide +kernel
theorem dL_law_164 : decode cL_law 164 = .ok (.aload_n 1, 1) := by decide +kernel
theorem dL_law_165 : decode cL_law 165 = .ok (.aload_n 0, 1) := by decide +kernel
theorem dL_law_166 : decode cL_law 166 = .ok (.iload 5, 2) := by decide +kernel
theorem dL_law_168 : decode cL_law 168 = .ok (.iconst 1, 1) := by decide +kernel
theorem dL_law_169 : decode cL_law 169 = .ok (.iadd, 1) := by decide +kernel
theorem dL_law_170 : decode cL_law 170 = .ok (.iaload, 1) := by decide +kernel
theorem dL_law_171 : decode cL_law 171 = .ok (.aload_n 3, 1) := by decide +kernel
theorem dL_law_172 : decode cL_law 172 = .ok (.invokestatic 110, 3) := by decide +kernel
theorem dL_law_175 : decode cL_law 175 = .ok (.istore 6, 2) := by decide +kernel
theorem dL_law_177 : decode cL_law 177 = .ok (.aload_n 2, 1) := by decide +kernel
theorem dL_law_178 : decode cL_law 178 = .ok (.aload_n 0, 1) := by decide +kernel
theorem dL_law_179 : decode cL_law 179 = .ok (.iload 5, 2) := by decide +kernel
theorem dL_law_181 : decode cL_law 181 = .ok (.iconst 1, 1) := by decide +kernel
theorem dL_law_182 : decode cL_law 182 = .ok (.iadd, 1) := by decide +kernel
theorem dL_law_183 : decode cL_law 183 = .ok (.iaload, 1) := by decide +kernel
theorem dL_law_184 : decode cL_law 184 = .ok (.invokevirtual 115, 3) := by decide +kernel
theorem dL_law_187 : decode cL_law 187 = .ok (.istore 7, 2) := by decide +kernel
theorem dL_law_189 : decode cL_law 189 = .ok (.aload_n 2, 1) := by decide +kernel
theorem dL_law_190 : decode cL_law 190 = .ok (.invokevirtual 116, 3) := by decide +kernel
theorem dL_law_193 : decode cL_law 193 = .ok (.iload 6, 2) := by decide +kernel
theorem dL_law_195 : decode cL_law 195 = .ok (.if_icmp .eq 5, 3) := by decide +kernel
theorem dL_law_198 : decode cL_law 198 = .ok (.iconst 0, 1) := by decide +kernel
theorem dL_law_199 : decode cL_law 199 = .ok (.ireturn, 1) := by decide +kernel
theorem dL_law_200 : decode cL_law 200 = .ok (.iload 6, 2) := by decide +kernel
theorem dL_law_202 : decode cL_law 202 = .ok (.ifCond .ne 15, 3) := by decide +kernel
theorem dL_law_205 : decode cL_law 205 = .ok (.aload_n 3, 1) := by decide +kernel
theorem dL_law_206 : decode cL_law 206 = .ok (.iconst 0, 1) := by decide +kernel
theorem dL_law_207 : decode cL_law 207 = .ok (.laload, 1) := by decide +kernel
theorem dL_law_208 : decode cL_law 208 = .ok (.iload 7, 2) := by decide +kernel
theorem dL_law_210 : decode cL_law 210 = .ok (.i2l, 1) := by decide +kernel
theorem dL_law_211 : decode cL_law 211 = .ok (.lcmp, 1) := by decide +kernel
theorem dL_law_212 : decode cL_law 212 = .ok (.ifCond .eq 5, 3) := by decide +kernel
theorem dL_law_215 : decode cL_law 215 = .ok (.iconst 0, 1) := by decide +kernel
theorem dL_law_216 : decode cL_law 216 = .ok (.ireturn, 1) := by decide +kernel
theorem dL_law_217 : decode cL_law 217 = .ok (.goto 1603, 3) := by decide +kernel
theorem dL_law_220 : decode cL_law 220 = .ok (.aload_n 1, 1) := by decide +kernel
theorem dL_law_221 : decode cL_law 221 = .ok (.aload_n 0, 1) := by decide +kernel
theorem dL_law_222 : decode cL_law 222 = .ok (.iload 5, 2) := by decide +kernel
theorem dL_law_224 : decode cL_law 224 = .ok (.iconst 1, 1) := by decide +kernel
theorem dL_law_225 : decode cL_law 225 = .ok (.iadd, 1) := by decide +kernel
theorem dL_law_226 : decode cL_law 226 = .ok (.iaload, 1) := by decide +kernel
theorem dL_law_227 : decode cL_law 227 = .ok (.aload_n 0, 1) := by decide +kernel
theorem dL_law_228 : decode cL_law 228 = .ok (.iload 5, 2) := by decide +kernel
theorem dL_law_230 : decode cL_law 230 = .ok (.iconst 2, 1) := by decide +kernel
theorem dL_law_231 : decode cL_law 231 = .ok (.iadd, 1) := by decide +kernel
theorem dL_law_232 : decode cL_law 232 = .ok (.iaload, 1) := by decide +kernel
theorem dL_law_233 : decode cL_law 233 = .ok (.aload_n 0, 1) := by decide +kernel
theorem dL_law_234 : decode cL_law 234 = .ok (.iload 5, 2) := by decide +kernel
theorem dL_law_236 : decode cL_law 236 = .ok (.iconst 3, 1) := by decide +kernel
theorem dL_law_237 : decode cL_law 237 = .ok (.iadd, 1) := by decide +kernel
theorem dL_law_238 : decode cL_law 238 = .ok (.iaload, 1) := by decide +kernel
theorem dL_law_239 : decode cL_law 239 = .ok (.aload_n 3, 1) := by decide +kernel
theorem dL_law_240 : decode cL_law 240 = .ok (.invokestatic 119, 3) := by decide +kernel
theorem dL_law_243 : decode cL_law 243 = .ok (.istore 6, 2) := by decide +kernel
theorem dL_law_245 : decode cL_law 245 = .ok (.aload_n 2, 1) := by decide +kernel
theorem dL_law_246 : decode cL_law 246 = .ok (.aload_n 0, 1) := by decide +kernel
theorem dL_law_247 : decode cL_law 247 = .ok (.iload 5, 2) := by decide +kernel
theorem dL_law_249 : decode cL_law 249 = .ok (.iconst 1, 1) := by decide +kernel
theorem dL_law_250 : decode cL_law 250 = .ok (.iadd, 1) := by decide +kernel
theorem dL_law_251 : decode cL_law 251 = .ok (.iaload, 1) := by decide +kernel
theorem dL_law_252 : decode cL_law 252 = .ok (.aload_n 0, 1) := by decide +kernel
theorem dL_law_253 : decode cL_law 253 = .ok (.iload 5, 2) := by decide +kernel
theorem dL_law_255 : decode cL_law 255 = .ok (.iconst 2, 1) := by decide +kernel
theorem dL_law_256 : decode cL_law 256 = .ok (.iadd, 1) := by decide +kernel
theorem dL_law_257 : decode cL_law 257 = .ok (.iaload, 1) := by decide +kernel
theorem dL_law_258 : decode cL_law 258 = .ok (.aload_n 0, 1) := by decide +kernel
theorem dL_law_259 : decode cL_law 259 = .ok (.iload 5, 2) := by decide +kernel
theorem dL_law_261 : decode cL_law 261 = .ok (.iconst 3, 1) := by decide +kernel
theorem dL_law_262 : decode cL_law 262 = .ok (.iadd, 1) := by decide +kernel
theorem dL_law_263 : decode cL_law 263 = .ok (.iaload, 1) := by decide +kernel
theorem dL_law_264 : decode cL_law 264 = .ok (.invokevirtual 122, 3) := by decide +kernel
theorem dL_law_267 : decode cL_law 267 = .ok (.istore 7, 2) := by decide +kernel
theorem dL_law_269 : decode cL_law 269 = .ok (.aload_n 2, 1) := by decide +kernel
theorem dL_law_270 : decode cL_law 270 = .ok (.invokevirtual 116, 3) := by decide +kernel
theorem dL_law_273 : decode cL_law 273 = .ok (.iload 6, 2) := by decide +kernel
theorem dL_law_275 : decode cL_law 275 = .ok (.if_icmp .eq 5, 3) := by decide +kernel
theorem dL_law_278 : decode cL_law 278 = .ok (.iconst 0, 1) := by decide +kernel
theorem dL_law_279 : decode cL_law 279 = .ok (.ireturn, 1) := by decide +kernel
theorem dL_law_280 : decode cL_law 280 = .ok (.iload 6, 2) := by decide +kernel
theorem dL_law_282 : decode cL_law 282 = .ok (.ifCond .ne 15, 3) := by decide +kernel
theorem dL_law_285 : decode cL_law 285 = .ok (.aload_n 3, 1) := by decide +kernel
theorem dL_law_286 : decode cL_law 286 = .ok (.iconst 0, 1) := by decide +kernel
theorem dL_law_287 : decode cL_law 287 = .ok (.laload, 1) := by decide +kernel
theorem dL_law_288 : decode cL_law 288 = .ok (.iload 7, 2) := by decide +kernel
theorem dL_law_290 : decode cL_law 290 = .ok (.i2l, 1) := by decide +kernel
theorem dL_law_291 : decode cL_law 291 = .ok (.lcmp, 1) := by decide +kernel
theorem dL_law_292 : decode cL_law 292 = .ok (.ifCond .eq 5, 3) := by decide +kernel
theorem dL_law_295 : decode cL_law 295 = .ok (.iconst 0, 1) := by decide +kernel
theorem dL_law_296 : decode cL_law 296 = .ok (.ireturn, 1) := by decide +kernel
theorem dL_law_297 : decode cL_law 297 = .ok (.goto 1523, 3) := by decide +kernel
theorem dL_law_300 : decode cL_law 300 = .ok (.aload_n 1, 1) := by decide +kernel
theorem dL_law_301 : decode cL_law 301 = .ok (.aload_n 0, 1) := by decide +kernel
theorem dL_law_302 : decode cL_law 302 = .ok (.iload 5, 2) := by decide +kernel
theorem dL_law_304 : decode cL_law 304 = .ok (.iconst 1, 1) := by decide +kernel
theorem dL_law_305 : decode cL_law 305 = .ok (.iadd, 1) := by decide +kernel
theorem dL_law_306 : decode cL_law 306 = .ok (.iaload, 1) := by decide +kernel
theorem dL_law_307 : decode cL_law 307 = .ok (.aload_n 0, 1) := by decide +kernel
theorem dL_law_308 : decode cL_law 308 = .ok (.iload 5, 2) := by decide +kernel
theorem dL_law_310 : decode cL_law 310 = .ok (.iconst 2, 1) := by decide +kernel
theorem dL_law_311 : decode cL_law 311 = .ok (.iadd, 1) := by decide +kernel
theorem dL_law_312 : decode cL_law 312 = .ok (.iaload, 1) := by decide +kernel
theorem dL_law_313 : decode cL_law 313 = .ok (.aload_n 0, 1) := by decide +kernel
theorem dL_law_314 : decode cL_law 314 = .ok (.iload 5, 2) := by decide +kernel
theorem dL_law_316 : decode cL_law 316 = .ok (.iconst 3, 1) := by decide +kernel
theorem dL_law_317 : decode cL_law 317 = .ok (.iadd, 1) := by decide +kernel
theorem dL_law_318 : decode cL_law 318 = .ok (.iaload, 1) := by decide +kernel
theorem dL_law_319 : decode cL_law 319 = .ok (.aload_n 0, 1) := by decide +kernel
theorem dL_law_320 : decode cL_law 320 = .ok (.iload 5, 2) := by decide +kernel
theorem dL_law_322 : decode cL_law 322 = .ok (.iconst 4, 1) := by decide +kernel
theorem dL_law_323 : decode cL_law 323 = .ok (.iadd, 1) := by decide +kernel
theorem dL_law_324 : decode cL_law 324 = .ok (.iaload, 1) := by decide +kernel
theorem dL_law_325 : decode cL_law 325 = .ok (.aload_n 3, 1) := by decide +kernel
theorem dL_law_326 : decode cL_law 326 = .ok (.invokestatic 123, 3) := by decide +kernel
theorem dL_law_329 : decode cL_law 329 = .ok (.istore 6, 2) := by decide +kernel
theorem dL_law_331 : decode cL_law 331 = .ok (.aload_n 2, 1) := by decide +kernel
theorem dL_law_332 : decode cL_law 332 = .ok (.aload_n 0, 1) := by decide +kernel
theorem dL_law_333 : decode cL_law 333 = .ok (.iload 5, 2) := by decide +kernel
theorem dL_law_335 : decode cL_law 335 = .ok (.iconst 1, 1) := by decide +kernel
theorem dL_law_336 : decode cL_law 336 = .ok (.iadd, 1) := by decide +kernel
theorem dL_law_337 : decode cL_law 337 = .ok (.iaload, 1) := by decide +kernel
theorem dL_law_338 : decode cL_law 338 = .ok (.aload_n 0, 1) := by decide +kernel
theorem dL_law_339 : decode cL_law 339 = .ok (.iload 5, 2) := by decide +kernel
theorem dL_law_341 : decode cL_law 341 = .ok (.iconst 2, 1) := by decide +kernel
theorem dL_law_342 : decode cL_law 342 = .ok (.iadd, 1) := by decide +kernel
theorem dL_law_343 : decode cL_law 343 = .ok (.iaload, 1) := by decide +kernel
theorem dL_law_344 : decode cL_law 344 = .ok (.aload_n 0, 1) := by decide +kernel
theorem dL_law_345 : decode cL_law 345 = .ok (.iload 5, 2) := by decide +kernel
theorem dL_law_347 : decode cL_law 347 = .ok (.iconst 3, 1) := by decide +kernel
theorem dL_law_348 : decode cL_law 348 = .ok (.iadd, 1) := by decide +kernel
theorem dL_law_349 : decode cL_law 349 = .ok (.iaload, 1) := by decide +kernel
theorem dL_law_350 : decode cL_law 350 = .ok (.aload_n 0, 1) := by decide +kernel
theorem dL_law_351 : decode cL_law 351 = .ok (.iload 5, 2) := by decide +kernel
theorem dL_law_353 : decode cL_law 353 = .ok (.iconst 4, 1) := by decide +kernel
theorem dL_law_354 : decode cL_law 354 = .ok (.iadd, 1) := by decide +kernel
theorem dL_law_355 : decode cL_law 355 = .ok (.iaload, 1) := by decide +kernel
theorem dL_law_356 : decode cL_law 356 = .ok (.invokevirtual 126, 3) := by decide +kernel
theorem dL_law_359 : decode cL_law 359 = .ok (.istore 7, 2) := by decide +kernel
theorem dL_law_361 : decode cL_law 361 = .ok (.aload_n 2, 1) := by decide +kernel
theorem dL_law_362 : decode cL_law 362 = .ok (.invokevirtual 116, 3) := by decide +kernel
theorem dL_law_365 : decode cL_law 365 = .ok (.iload 6, 2) := by decide +kernel
theorem dL_law_367 : decode cL_law 367 = .ok (.if_icmp .eq 5, 3) := by decide +kernel
theorem dL_law_370 : decode cL_law 370 = .ok (.iconst 0, 1) := by decide +kernel
theorem dL_law_371 : decode cL_law 371 = .ok (.ireturn, 1) := by decide +kernel
theorem dL_law_372 : decode cL_law 372 = .ok (.iload 6, 2) := by decide +kernel
theorem dL_law_374 : decode cL_law 374 = .ok (.ifCond .ne 15, 3) := by decide +kernel
theorem dL_law_377 : decode cL_law 377 = .ok (.aload_n 3, 1) := by decide +kernel
theorem dL_law_378 : decode cL_law 378 = .ok (.iconst 0, 1) := by decide +kernel
theorem dL_law_379 : decode cL_law 379 = .ok (.laload, 1) := by decide +kernel
theorem dL_law_380 : decode cL_law 380 = .ok (.iload 7, 2) := by decide +kernel
theorem dL_law_382 : decode cL_law 382 = .ok (.i2l, 1) := by decide +kernel
theorem dL_law_383 : decode cL_law 383 = .ok (.lcmp, 1) := by decide +kernel
theorem dL_law_384 : decode cL_law 384 = .ok (.ifCond .eq 5, 3) := by decide +kernel
theorem dL_law_387 : decode cL_law 387 = .ok (.iconst 0, 1) := by decide +kernel
theorem dL_law_388 : decode cL_law 388 = .ok (.ireturn, 1) := by decide +kernel
theorem dL_law_389 : decode cL_law 389 = .ok (.goto 1431, 3) := by decide +kernel
theorem dL_law_392 : decode cL_law 392 = .ok (.aload_n 1, 1) := by decide +kernel
theorem dL_law_393 : decode cL_law 393 = .ok (.aload_n 0, 1) := by decide +kernel
theorem dL_law_394 : decode cL_law 394 = .ok (.iload 5, 2) := by decide +kernel
theorem dL_law_396 : decode cL_law 396 = .ok (.iconst 1, 1) := by decide +kernel
theorem dL_law_397 : decode cL_law 397 = .ok (.iadd, 1) := by decide +kernel
theorem dL_law_398 : decode cL_law 398 = .ok (.iaload, 1) := by decide +kernel
theorem dL_law_399 : decode cL_law 399 = .ok (.aload_n 0, 1) := by decide +kernel
theorem dL_law_400 : decode cL_law 400 = .ok (.iload 5, 2) := by decide +kernel
theorem dL_law_402 : decode cL_law 402 = .ok (.iconst 2, 1) := by decide +kernel
theorem dL_law_403 : decode cL_law 403 = .ok (.iadd, 1) := by decide +kernel
theorem dL_law_404 : decode cL_law 404 = .ok (.iaload, 1) := by decide +kernel
theorem dL_law_405 : decode cL_law 405 = .ok (.aload_n 3, 1) := by decide +kernel
theorem dL_law_406 : decode cL_law 406 = .ok (.invokestatic 127, 3) := by decide +kernel
theorem dL_law_409 : decode cL_law 409 = .ok (.istore 6, 2) := by decide +kernel
theorem dL_law_411 : decode cL_law 411 = .ok (.aload_n 2, 1) := by decide +kernel
theorem dL_law_412 : decode cL_law 412 = .ok (.aload_n 0, 1) := by decide +kernel
theorem dL_law_413 : decode cL_law 413 = .ok (.iload 5, 2) := by decide +kernel
theorem dL_law_415 : decode cL_law 415 = .ok (.iconst 1, 1) := by decide +kernel
theorem dL_law_416 : decode cL_law 416 = .ok (.iadd, 1) := by decide +kernel
theorem dL_law_417 : decode cL_law 417 = .ok (.iaload, 1) := by decide +kernel
theorem dL_law_418 : decode cL_law 418 = .ok (.aload_n 0, 1) := by decide +kernel
theorem dL_law_419 : decode cL_law 419 = .ok (.iload 5, 2) := by decide +kernel
theorem dL_law_421 : decode cL_law 421 = .ok (.iconst 2, 1) := by decide +kernel
theorem dL_law_422 : decode cL_law 422 = .ok (.iadd, 1) := by decide +kernel
theorem dL_law_423 : decode cL_law 423 = .ok (.iaload, 1) := by decide +kernel
theorem dL_law_424 : decode cL_law 424 = .ok (.invokevirtual 130, 3) := by decide +kernel
theorem dL_law_427 : decode cL_law 427 = .ok (.istore 7, 2) := by decide +kernel
theorem dL_law_429 : decode cL_law 429 = .ok (.aload_n 2, 1) := by decide +kernel
theorem dL_law_430 : decode cL_law 430 = .ok (.invokevirtual 116, 3) := by decide +kernel
theorem dL_law_433 : decode cL_law 433 = .ok (.iload 6, 2) := by decide +kernel
theorem dL_law_435 : decode cL_law 435 = .ok (.if_icmp .eq 5, 3) := by decide +kernel
theorem dL_law_438 : decode cL_law 438 = .ok (.iconst 0, 1) := by decide +kernel
theorem dL_law_439 : decode cL_law 439 = .ok (.ireturn, 1) := by decide +kernel
theorem dL_law_440 : decode cL_law 440 = .ok (.iload 6, 2) := by decide +kernel
theorem dL_law_442 : decode cL_law 442 = .ok (.ifCond .ne 15, 3) := by decide +kernel
theorem dL_law_445 : decode cL_law 445 = .ok (.aload_n 3, 1) := by decide +kernel
theorem dL_law_446 : decode cL_law 446 = .ok (.iconst 0, 1) := by decide +kernel
theorem dL_law_447 : decode cL_law 447 = .ok (.laload, 1) := by decide +kernel
theorem dL_law_448 : decode cL_law 448 = .ok (.iload 7, 2) := by decide +kernel
theorem dL_law_450 : decode cL_law 450 = .ok (.i2l, 1) := by decide +kernel
theorem dL_law_451 : decode cL_law 451 = .ok (.lcmp, 1) := by decide +kernel
theorem dL_law_452 : decode cL_law 452 = .ok (.ifCond .eq 5, 3) := by decide +kernel
theorem dL_law_455 : decode cL_law 455 = .ok (.iconst 0, 1) := by decide +kernel
theorem dL_law_456 : decode cL_law 456 = .ok (.ireturn, 1) := by decide +kernel
theorem dL_law_457 : decode cL_law 457 = .ok (.goto 1363, 3) := by decide +kernel
theorem dL_law_460 : decode cL_law 460 = .ok (.aload_n 1, 1) := by decide +kernel
theorem dL_law_461 : decode cL_law 461 = .ok (.aload_n 0, 1) := by decide +kernel
theorem dL_law_462 : decode cL_law 462 = .ok (.iload 5, 2) := by decide +kernel
theorem dL_law_464 : decode cL_law 464 = .ok (.iconst 1, 1) := by decide +kernel
theorem dL_law_465 : decode cL_law 465 = .ok (.iadd, 1) := by decide +kernel
theorem dL_law_466 : decode cL_law 466 = .ok (.iaload, 1) := by decide +kernel
theorem dL_law_467 : decode cL_law 467 = .ok (.aload_n 0, 1) := by decide +kernel
theorem dL_law_468 : decode cL_law 468 = .ok (.iload 5, 2) := by decide +kernel
theorem dL_law_470 : decode cL_law 470 = .ok (.iconst 2, 1) := by decide +kernel
theorem dL_law_471 : decode cL_law 471 = .ok (.iadd, 1) := by decide +kernel
theorem dL_law_472 : decode cL_law 472 = .ok (.iaload, 1) := by decide +kernel
theorem dL_law_473 : decode cL_law 473 = .ok (.aload_n 3, 1) := by decide +kernel
theorem dL_law_474 : decode cL_law 474 = .ok (.invokestatic 131, 3) := by decide +kernel
theorem dL_law_477 : decode cL_law 477 = .ok (.istore 6, 2) := by decide +kernel
theorem dL_law_479 : decode cL_law 479 = .ok (.aload_n 2, 1) := by decide +kernel
theorem dL_law_480 : decode cL_law 480 = .ok (.aload_n 0, 1) := by decide +kernel
theorem dL_law_481 : decode cL_law 481 = .ok (.iload 5, 2) := by decide +kernel
theorem dL_law_483 : decode cL_law 483 = .ok (.iconst 1, 1) := by decide +kernel
theorem dL_law_484 : decode cL_law 484 = .ok (.iadd, 1) := by decide +kernel
theorem dL_law_485 : decode cL_law 485 = .ok (.iaload, 1) := by decide +kernel
theorem dL_law_486 : decode cL_law 486 = .ok (.aload_n 0, 1) := by decide +kernel
theorem dL_law_487 : decode cL_law 487 = .ok (.iload 5, 2) := by decide +kernel
theorem dL_law_489 : decode cL_law 489 = .ok (.iconst 2, 1) := by decide +kernel
theorem dL_law_490 : decode cL_law 490 = .ok (.iadd, 1) := by decide +kernel
theorem dL_law_491 : decode cL_law 491 = .ok (.iaload, 1) := by decide +kernel
theorem dL_law_492 : decode cL_law 492 = .ok (.invokevirtual 133, 3) := by decide +kernel
theorem dL_law_495 : decode cL_law 495 = .ok (.istore 7, 2) := by decide +kernel
theorem dL_law_497 : decode cL_law 497 = .ok (.aload_n 2, 1) := by decide +kernel
theorem dL_law_498 : decode cL_law 498 = .ok (.invokevirtual 116, 3) := by decide +kernel
theorem dL_law_501 : decode cL_law 501 = .ok (.iload 6, 2) := by decide +kernel
theorem dL_law_503 : decode cL_law 503 = .ok (.if_icmp .eq 5, 3) := by decide +kernel
theorem dL_law_506 : decode cL_law 506 = .ok (.iconst 0, 1) := by decide +kernel
theorem dL_law_507 : decode cL_law 507 = .ok (.ireturn, 1) := by decide +kernel
theorem dL_law_508 : decode cL_law 508 = .ok (.iload 6, 2) := by decide +kernel
theorem dL_law_510 : decode cL_law 510 = .ok (.ifCond .ne 15, 3) := by decide +kernel
theorem dL_law_513 : decode cL_law 513 = .ok (.aload_n 3, 1) := by decide +kernel
theorem dL_law_514 : decode cL_law 514 = .ok (.iconst 0, 1) := by decide +kernel
theorem dL_law_515 : decode cL_law 515 = .ok (.laload, 1) := by decide +kernel
theorem dL_law_516 : decode cL_law 516 = .ok (.iload 7, 2) := by decide +kernel
theorem dL_law_518 : decode cL_law 518 = .ok (.i2l, 1) := by decide +kernel
theorem dL_law_519 : decode cL_law 519 = .ok (.lcmp, 1) := by decide +kernel
theorem dL_law_520 : decode cL_law 520 = .ok (.ifCond .eq 5, 3) := by decide +kernel
theorem dL_law_523 : decode cL_law 523 = .ok (.iconst 0, 1) := by decide +kernel
theorem dL_law_524 : decode cL_law 524 = .ok (.ireturn, 1) := by decide +kernel
theorem dL_law_525 : decode cL_law 525 = .ok (.goto 1295, 3) := by decide +kernel
theorem dL_law_528 : decode cL_law 528 = .ok (.aload_n 1, 1) := by decide +kernel
theorem dL_law_529 : decode cL_law 529 = .ok (.aload_n 0, 1) := by decide +kernel
theorem dL_law_530 : decode cL_law 530 = .ok (.iload 5, 2) := by decide +kernel
theorem dL_law_532 : decode cL_law 532 = .ok (.iconst 1, 1) := by decide +kernel
theorem dL_law_533 : decode cL_law 533 = .ok (.iadd, 1) := by decide +kernel
theorem dL_law_534 : decode cL_law 534 = .ok (.iaload, 1) := by decide +kernel
theorem dL_law_535 : decode cL_law 535 = .ok (.aload_n 0, 1) := by decide +kernel
theorem dL_law_536 : decode cL_law 536 = .ok (.iload 5, 2) := by decide +kernel
theorem dL_law_538 : decode cL_law 538 = .ok (.iconst 2, 1) := by decide +kernel
theorem dL_law_539 : decode cL_law 539 = .ok (.iadd, 1) := by decide +kernel
theorem dL_law_540 : decode cL_law 540 = .ok (.iaload, 1) := by decide +kernel
theorem dL_law_541 : decode cL_law 541 = .ok (.aload_n 3, 1) := by decide +kernel
theorem dL_law_542 : decode cL_law 542 = .ok (.invokestatic 134, 3) := by decide +kernel
theorem dL_law_545 : decode cL_law 545 = .ok (.istore 6, 2) := by decide +kernel
theorem dL_law_547 : decode cL_law 547 = .ok (.aload_n 2, 1) := by decide +kernel
theorem dL_law_548 : decode cL_law 548 = .ok (.aload_n 0, 1) := by decide +kernel
theorem dL_law_549 : decode cL_law 549 = .ok (.iload 5, 2) := by decide +kernel
theorem dL_law_551 : decode cL_law 551 = .ok (.iconst 1, 1) := by decide +kernel
theorem dL_law_552 : decode cL_law 552 = .ok (.iadd, 1) := by decide +kernel
theorem dL_law_553 : decode cL_law 553 = .ok (.iaload, 1) := by decide +kernel
theorem dL_law_554 : decode cL_law 554 = .ok (.aload_n 0, 1) := by decide +kernel
theorem dL_law_555 : decode cL_law 555 = .ok (.iload 5, 2) := by decide +kernel
theorem dL_law_557 : decode cL_law 557 = .ok (.iconst 2, 1) := by decide +kernel
theorem dL_law_558 : decode cL_law 558 = .ok (.iadd, 1) := by decide +kernel
theorem dL_law_559 : decode cL_law 559 = .ok (.iaload, 1) := by decide +kernel
theorem dL_law_560 : decode cL_law 560 = .ok (.invokevirtual 136, 3) := by decide +kernel
theorem dL_law_563 : decode cL_law 563 = .ok (.istore 7, 2) := by decide +kernel
theorem dL_law_565 : decode cL_law 565 = .ok (.aload_n 2, 1) := by decide +kernel
theorem dL_law_566 : decode cL_law 566 = .ok (.invokevirtual 116, 3) := by decide +kernel
theorem dL_law_569 : decode cL_law 569 = .ok (.iload 6, 2) := by decide +kernel
theorem dL_law_571 : decode cL_law 571 = .ok (.if_icmp .eq 5, 3) := by decide +kernel
theorem dL_law_574 : decode cL_law 574 = .ok (.iconst 0, 1) := by decide +kernel
theorem dL_law_575 : decode cL_law 575 = .ok (.ireturn, 1) := by decide +kernel
theorem dL_law_576 : decode cL_law 576 = .ok (.iload 6, 2) := by decide +kernel
theorem dL_law_578 : decode cL_law 578 = .ok (.ifCond .ne 15, 3) := by decide +kernel
theorem dL_law_581 : decode cL_law 581 = .ok (.aload_n 3, 1) := by decide +kernel
theorem dL_law_582 : decode cL_law 582 = .ok (.iconst 0, 1) := by decide +kernel
theorem dL_law_583 : decode cL_law 583 = .ok (.laload, 1) := by decide +kernel
theorem dL_law_584 : decode cL_law 584 = .ok (.iload 7, 2) := by decide +kernel
theorem dL_law_586 : decode cL_law 586 = .ok (.i2l, 1) := by decide +kernel
theorem dL_law_587 : decode cL_law 587 = .ok (.lcmp, 1) := by decide +kernel
theorem dL_law_588 : decode cL_law 588 = .ok (.ifCond .eq 5, 3) := by decide +kernel
theorem dL_law_591 : decode cL_law 591 = .ok (.iconst 0, 1) := by decide +kernel
theorem dL_law_592 : decode cL_law 592 = .ok (.ireturn, 1) := by decide +kernel
theorem dL_law_593 : decode cL_law 593 = .ok (.goto 1227, 3) := by decide +kernel
theorem dL_law_596 : decode cL_law 596 = .ok (.aload_n 1, 1) := by decide +kernel
theorem dL_law_597 : decode cL_law 597 = .ok (.aload_n 0, 1) := by decide +kernel
theorem dL_law_598 : decode cL_law 598 = .ok (.iload 5, 2) := by decide +kernel
theorem dL_law_600 : decode cL_law 600 = .ok (.iconst 1, 1) := by decide +kernel
theorem dL_law_601 : decode cL_law 601 = .ok (.iadd, 1) := by decide +kernel
theorem dL_law_602 : decode cL_law 602 = .ok (.iaload, 1) := by decide +kernel
theorem dL_law_603 : decode cL_law 603 = .ok (.aload_n 3, 1) := by decide +kernel
theorem dL_law_604 : decode cL_law 604 = .ok (.invokestatic 137, 3) := by decide +kernel
theorem dL_law_607 : decode cL_law 607 = .ok (.istore 6, 2) := by decide +kernel
theorem dL_law_609 : decode cL_law 609 = .ok (.aload_n 2, 1) := by decide +kernel
theorem dL_law_610 : decode cL_law 610 = .ok (.aload_n 0, 1) := by decide +kernel
theorem dL_law_611 : decode cL_law 611 = .ok (.iload 5, 2) := by decide +kernel
theorem dL_law_613 : decode cL_law 613 = .ok (.iconst 1, 1) := by decide +kernel
theorem dL_law_614 : decode cL_law 614 = .ok (.iadd, 1) := by decide +kernel
theorem dL_law_615 : decode cL_law 615 = .ok (.iaload, 1) := by decide +kernel
theorem dL_law_616 : decode cL_law 616 = .ok (.invokevirtual 139, 3) := by decide +kernel
theorem dL_law_619 : decode cL_law 619 = .ok (.istore 7, 2) := by decide +kernel
theorem dL_law_621 : decode cL_law 621 = .ok (.aload_n 2, 1) := by decide +kernel
theorem dL_law_622 : decode cL_law 622 = .ok (.invokevirtual 116, 3) := by decide +kernel
theorem dL_law_625 : decode cL_law 625 = .ok (.iload 6, 2) := by decide +kernel
theorem dL_law_627 : decode cL_law 627 = .ok (.if_icmp .eq 5, 3) := by decide +kernel
theorem dL_law_630 : decode cL_law 630 = .ok (.iconst 0, 1) := by decide +kernel
theorem dL_law_631 : decode cL_law 631 = .ok (.ireturn, 1) := by decide +kernel
theorem dL_law_632 : decode cL_law 632 = .ok (.iload 6, 2) := by decide +kernel
theorem dL_law_634 : decode cL_law 634 = .ok (.ifCond .ne 22, 3) := by decide +kernel
theorem dL_law_637 : decode cL_law 637 = .ok (.aload_n 3, 1) := by decide +kernel
theorem dL_law_638 : decode cL_law 638 = .ok (.iconst 0, 1) := by decide +kernel
theorem dL_law_639 : decode cL_law 639 = .ok (.laload, 1) := by decide +kernel
theorem dL_law_640 : decode cL_law 640 = .ok (.iload 7, 2) := by decide +kernel
theorem dL_law_642 : decode cL_law 642 = .ok (.ifCond .eq 7, 3) := by decide +kernel
theorem dL_law_645 : decode cL_law 645 = .ok (.lconst 1, 1) := by decide +kernel
theorem dL_law_646 : decode cL_law 646 = .ok (.goto 4, 3) := by decide +kernel
theorem dL_law_649 : decode cL_law 649 = .ok (.lconst 0, 1) := by decide +kernel
theorem dL_law_650 : decode cL_law 650 = .ok (.lcmp, 1) := by decide +kernel
theorem dL_law_651 : decode cL_law 651 = .ok (.ifCond .eq 5, 3) := by decide +kernel
theorem dL_law_654 : decode cL_law 654 = .ok (.iconst 0, 1) := by decide +kernel
theorem dL_law_655 : decode cL_law 655 = .ok (.ireturn, 1) := by decide +kernel
theorem dL_law_656 : decode cL_law 656 = .ok (.goto 1164, 3) := by decide +kernel
theorem dL_law_659 : decode cL_law 659 = .ok (.aload_n 1, 1) := by decide +kernel
theorem dL_law_660 : decode cL_law 660 = .ok (.invokevirtual 140, 3) := by decide +kernel
theorem dL_law_663 : decode cL_law 663 = .ok (.aload_n 2, 1) := by decide +kernel
theorem dL_law_664 : decode cL_law 664 = .ok (.invokevirtual 143, 3) := by decide +kernel
theorem dL_law_667 : decode cL_law 667 = .ok (.if_icmp .eq 1153, 3) := by decide +kernel
theorem dL_law_670 : decode cL_law 670 = .ok (.iconst 0, 1) := by decide +kernel
theorem dL_law_671 : decode cL_law 671 = .ok (.ireturn, 1) := by decide +kernel
theorem dL_law_672 : decode cL_law 672 = .ok (.aload_n 1, 1) := by decide +kernel
theorem dL_law_673 : decode cL_law 673 = .ok (.aload_n 0, 1) := by decide +kernel
theorem dL_law_674 : decode cL_law 674 = .ok (.iload 5, 2) := by decide +kernel
theorem dL_law_676 : decode cL_law 676 = .ok (.iconst 1, 1) := by decide +kernel
theorem dL_law_677 : decode cL_law 677 = .ok (.iadd, 1) := by decide +kernel
theorem dL_law_678 : decode cL_law 678 = .ok (.iaload, 1) := by decide +kernel
theorem dL_law_679 : decode cL_law 679 = .ok (.aload_n 0, 1) := by decide +kernel
theorem dL_law_680 : decode cL_law 680 = .ok (.iload 5, 2) := by decide +kernel
theorem dL_law_682 : decode cL_law 682 = .ok (.iconst 2, 1) := by decide +kernel
theorem dL_law_683 : decode cL_law 683 = .ok (.iadd, 1) := by decide +kernel
theorem dL_law_684 : decode cL_law 684 = .ok (.iaload, 1) := by decide +kernel
theorem dL_law_685 : decode cL_law 685 = .ok (.aload_n 3, 1) := by decide +kernel
theorem dL_law_686 : decode cL_law 686 = .ok (.invokestatic 144, 3) := by decide +kernel
theorem dL_law_689 : decode cL_law 689 = .ok (.istore 6, 2) := by decide +kernel
theorem dL_law_691 : decode cL_law 691 = .ok (.aload_n 2, 1) := by decide +kernel
theorem dL_law_692 : decode cL_law 692 = .ok (.aload_n 0, 1) := by decide +kernel
theorem dL_law_693 : decode cL_law 693 = .ok (.iload 5, 2) := by decide +kernel
theorem dL_law_695 : decode cL_law 695 = .ok (.iconst 1, 1) := by decide +kernel
theorem dL_law_696 : decode cL_law 696 = .ok (.iadd, 1) := by decide +kernel
theorem dL_law_697 : decode cL_law 697 = .ok (.iaload, 1) := by decide +kernel
theorem dL_law_698 : decode cL_law 698 = .ok (.aload_n 0, 1) := by decide +kernel
theorem dL_law_699 : decode cL_law 699 = .ok (.iload 5, 2) := by decide +kernel
theorem dL_law_701 : decode cL_law 701 = .ok (.iconst 2, 1) := by decide +kernel
theorem dL_law_702 : decode cL_law 702 = .ok (.iadd, 1) := by decide +kernel
theorem dL_law_703 : decode cL_law 703 = .ok (.iaload, 1) := by decide +kernel
theorem dL_law_704 : decode cL_law 704 = .ok (.invokevirtual 146, 3) := by decide +kernel
theorem dL_law_707 : decode cL_law 707 = .ok (.istore 7, 2) := by decide +kernel
theorem dL_law_709 : decode cL_law 709 = .ok (.aload_n 2, 1) := by decide +kernel
theorem dL_law_710 : decode cL_law 710 = .ok (.invokevirtual 116, 3) := by decide +kernel
theorem dL_law_713 : decode cL_law 713 = .ok (.iload 6, 2) := by decide +kernel
theorem dL_law_715 : decode cL_law 715 = .ok (.if_icmp .eq 5, 3) := by decide +kernel
theorem dL_law_718 : decode cL_law 718 = .ok (.iconst 0, 1) := by decide +kernel
theorem dL_law_719 : decode cL_law 719 = .ok (.ireturn, 1) := by decide +kernel
theorem dL_law_720 : decode cL_law 720 = .ok (.iload 6, 2) := by decide +kernel
theorem dL_law_722 : decode cL_law 722 = .ok (.ifCond .ne 15, 3) := by decide +kernel
theorem dL_law_725 : decode cL_law 725 = .ok (.aload_n 3, 1) := by decide +kernel
theorem dL_law_726 : decode cL_law 726 = .ok (.iconst 0, 1) := by decide +kernel
theorem dL_law_727 : decode cL_law 727 = .ok (.laload, 1) := by decide +kernel
theorem dL_law_728 : decode cL_law 728 = .ok (.iload 7, 2) := by decide +kernel
theorem dL_law_730 : decode cL_law 730 = .ok (.i2l, 1) := by decide +kernel
theorem dL_law_731 : decode cL_law 731 = .ok (.lcmp, 1) := by decide +kernel
theorem dL_law_732 : decode cL_law 732 = .ok (.ifCond .eq 5, 3) := by decide +kernel
theorem dL_law_735 : decode cL_law 735 = .ok (.iconst 0, 1) := by decide +kernel
theorem dL_law_736 : decode cL_law 736 = .ok (.ireturn, 1) := by decide +kernel
theorem dL_law_737 : decode cL_law 737 = .ok (.goto 1083, 3) := by decide +kernel
theorem dL_law_740 : decode cL_law 740 = .ok (.aload_n 1, 1) := by decide +kernel
theorem dL_law_741 : decode cL_law 741 = .ok (.aload_n 0, 1) := by decide +kernel
theorem dL_law_742 : decode cL_law 742 = .ok (.iload 5, 2) := by decide +kernel
theorem dL_law_744 : decode cL_law 744 = .ok (.iconst 1, 1) := by decide +kernel
theorem dL_law_745 : decode cL_law 745 = .ok (.iadd, 1) := by decide +kernel
theorem dL_law_746 : decode cL_law 746 = .ok (.iaload, 1) := by decide +kernel
theorem dL_law_747 : decode cL_law 747 = .ok (.aload_n 0, 1) := by decide +kernel
theorem dL_law_748 : decode cL_law 748 = .ok (.iload 5, 2) := by decide +kernel
theorem dL_law_750 : decode cL_law 750 = .ok (.iconst 2, 1) := by decide +kernel
theorem dL_law_751 : decode cL_law 751 = .ok (.iadd, 1) := by decide +kernel
theorem dL_law_752 : decode cL_law 752 = .ok (.iaload, 1) := by decide +kernel
theorem dL_law_753 : decode cL_law 753 = .ok (.ifCond .eq 7, 3) := by decide +kernel
theorem dL_law_756 : decode cL_law 756 = .ok (.iconst 1, 1) := by decide +kernel
theorem dL_law_757 : decode cL_law 757 = .ok (.goto 4, 3) := by decide +kernel
theorem dL_law_760 : decode cL_law 760 = .ok (.iconst 0, 1) := by decide +kernel
theorem dL_law_761 : decode cL_law 761 = .ok (.aload_n 3, 1) := by decide +kernel
theorem dL_law_762 : decode cL_law 762 = .ok (.invokestatic 147, 3) := by decide +kernel
theorem dL_law_765 : decode cL_law 765 = .ok (.istore 6, 2) := by decide +kernel
theorem dL_law_767 : decode cL_law 767 = .ok (.aload_n 2, 1) := by decide +kernel
theorem dL_law_768 : decode cL_law 768 = .ok (.aload_n 0, 1) := by decide +kernel
theorem dL_law_769 : decode cL_law 769 = .ok (.iload 5, 2) := by decide +kernel
theorem dL_law_771 : decode cL_law 771 = .ok (.iconst 1, 1) := by decide +kernel
theorem dL_law_772 : decode cL_law 772 = .ok (.iadd, 1) := by decide +kernel
theorem dL_law_773 : decode cL_law 773 = .ok (.iaload, 1) := by decide +kernel
theorem dL_law_774 : decode cL_law 774 = .ok (.aload_n 0, 1) := by decide +kernel
theorem dL_law_775 : decode cL_law 775 = .ok (.iload 5, 2) := by decide +kernel
theorem dL_law_777 : decode cL_law 777 = .ok (.iconst 2, 1) := by decide +kernel
theorem dL_law_778 : decode cL_law 778 = .ok (.iadd, 1) := by decide +kernel
theorem dL_law_779 : decode cL_law 779 = .ok (.iaload, 1) := by decide +kernel
theorem dL_law_780 : decode cL_law 780 = .ok (.ifCond .eq 7, 3) := by decide +kernel
theorem dL_law_783 : decode cL_law 783 = .ok (.iconst 1, 1) := by decide +kernel
theorem dL_law_784 : decode cL_law 784 = .ok (.goto 4, 3) := by decide +kernel
theorem dL_law_787 : decode cL_law 787 = .ok (.iconst 0, 1) := by decide +kernel
theorem dL_law_788 : decode cL_law 788 = .ok (.invokevirtual 150, 3) := by decide +kernel
theorem dL_law_791 : decode cL_law 791 = .ok (.istore 7, 2) := by decide +kernel
theorem dL_law_793 : decode cL_law 793 = .ok (.aload_n 2, 1) := by decide +kernel
theorem dL_law_794 : decode cL_law 794 = .ok (.invokevirtual 116, 3) := by decide +kernel
theorem dL_law_797 : decode cL_law 797 = .ok (.iload 6, 2) := by decide +kernel
theorem dL_law_799 : decode cL_law 799 = .ok (.if_icmp .eq 5, 3) := by decide +kernel
theorem dL_law_802 : decode cL_law 802 = .ok (.iconst 0, 1) := by decide +kernel
theorem dL_law_803 : decode cL_law 803 = .ok (.ireturn, 1) := by decide +kernel
theorem dL_law_804 : decode cL_law 804 = .ok (.iload 6, 2) := by decide +kernel
theorem dL_law_806 : decode cL_law 806 = .ok (.ifCond .ne 22, 3) := by decide +kernel
theorem dL_law_809 : decode cL_law 809 = .ok (.aload_n 3, 1) := by decide +kernel
theorem dL_law_810 : decode cL_law 810 = .ok (.iconst 0, 1) := by decide +kernel
theorem dL_law_811 : decode cL_law 811 = .ok (.laload, 1) := by decide +kernel
theorem dL_law_812 : decode cL_law 812 = .ok (.iload 7, 2) := by decide +kernel
theorem dL_law_814 : decode cL_law 814 = .ok (.ifCond .eq 7, 3) := by decide +kernel
theorem dL_law_817 : decode cL_law 817 = .ok (.lconst 1, 1) := by decide +kernel
theorem dL_law_818 : decode cL_law 818 = .ok (.goto 4, 3) := by decide +kernel
theorem dL_law_821 : decode cL_law 821 = .ok (.lconst 0, 1) := by decide +kernel
theorem dL_law_822 : decode cL_law 822 = .ok (.lcmp, 1) := by decide +kernel
theorem dL_law_823 : decode cL_law 823 = .ok (.ifCond .eq 5, 3) := by decide +kernel
theorem dL_law_826 : decode cL_law 826 = .ok (.iconst 0, 1) := by decide +kernel
theorem dL_law_827 : decode cL_law 827 = .ok (.ireturn, 1) := by decide +kernel
theorem dL_law_828 : decode cL_law 828 = .ok (.goto 992, 3) := by decide +kernel
theorem dL_law_831 : decode cL_law 831 = .ok (.aload_n 1, 1) := by decide +kernel
theorem dL_law_832 : decode cL_law 832 = .ok (.aload_n 0, 1) := by decide +kernel
theorem dL_law_833 : decode cL_law 833 = .ok (.iload 5, 2) := by decide +kernel
theorem dL_law_835 : decode cL_law 835 = .ok (.iconst 1, 1) := by decide +kernel
theorem dL_law_836 : decode cL_law 836 = .ok (.iadd, 1) := by decide +kernel
theorem dL_law_837 : decode cL_law 837 = .ok (.iaload, 1) := by decide +kernel
theorem dL_law_838 : decode cL_law 838 = .ok (.aload_n 3, 1) := by decide +kernel
theorem dL_law_839 : decode cL_law 839 = .ok (.invokestatic 151, 3) := by decide +kernel
theorem dL_law_842 : decode cL_law 842 = .ok (.istore 6, 2) := by decide +kernel
theorem dL_law_844 : decode cL_law 844 = .ok (.aload_n 2, 1) := by decide +kernel
theorem dL_law_845 : decode cL_law 845 = .ok (.aload_n 0, 1) := by decide +kernel
theorem dL_law_846 : decode cL_law 846 = .ok (.iload 5, 2) := by decide +kernel
theorem dL_law_848 : decode cL_law 848 = .ok (.iconst 1, 1) := by decide +kernel
theorem dL_law_849 : decode cL_law 849 = .ok (.iadd, 1) := by decide +kernel
theorem dL_law_850 : decode cL_law 850 = .ok (.iaload, 1) := by decide +kernel
theorem dL_law_851 : decode cL_law 851 = .ok (.invokevirtual 153, 3) := by decide +kernel
theorem dL_law_854 : decode cL_law 854 = .ok (.istore 7, 2) := by decide +kernel
theorem dL_law_856 : decode cL_law 856 = .ok (.aload_n 2, 1) := by decide +kernel
theorem dL_law_857 : decode cL_law 857 = .ok (.invokevirtual 116, 3) := by decide +kernel
theorem dL_law_860 : decode cL_law 860 = .ok (.iload 6, 2) := by decide +kernel
theorem dL_law_862 : decode cL_law 862 = .ok (.if_icmp .eq 5, 3) := by decide +kernel
theorem dL_law_865 : decode cL_law 865 = .ok (.iconst 0, 1) := by decide +kernel
theorem dL_law_866 : decode cL_law 866 = .ok (.ireturn, 1) := by decide +kernel
theorem dL_law_867 : decode cL_law 867 = .ok (.iload 6, 2) := by decide +kernel
theorem dL_law_869 : decode cL_law 869 = .ok (.ifCond .ne 15, 3) := by decide +kernel
theorem dL_law_872 : decode cL_law 872 = .ok (.aload_n 3, 1) := by decide +kernel
theorem dL_law_873 : decode cL_law 873 = .ok (.iconst 0, 1) := by decide +kernel
theorem dL_law_874 : decode cL_law 874 = .ok (.laload, 1) := by decide +kernel
theorem dL_law_875 : decode cL_law 875 = .ok (.iload 7, 2) := by decide +kernel
theorem dL_law_877 : decode cL_law 877 = .ok (.i2l, 1) := by decide +kernel
theorem dL_law_878 : decode cL_law 878 = .ok (.lcmp, 1) := by decide +kernel
theorem dL_law_879 : decode cL_law 879 = .ok (.ifCond .eq 5, 3) := by decide +kernel
theorem dL_law_882 : decode cL_law 882 = .ok (.iconst 0, 1) := by decide +kernel
theorem dL_law_883 : decode cL_law 883 = .ok (.ireturn, 1) := by decide +kernel
theorem dL_law_884 : decode cL_law 884 = .ok (.goto 936, 3) := by decide +kernel
theorem dL_law_887 : decode cL_law 887 = .ok (.aload_n 1, 1) := by decide +kernel
theorem dL_law_888 : decode cL_law 888 = .ok (.aload_n 0, 1) := by decide +kernel
theorem dL_law_889 : decode cL_law 889 = .ok (.iload 5, 2) := by decide +kernel
theorem dL_law_891 : decode cL_law 891 = .ok (.iconst 1, 1) := by decide +kernel
theorem dL_law_892 : decode cL_law 892 = .ok (.iadd, 1) := by decide +kernel
theorem dL_law_893 : decode cL_law 893 = .ok (.iaload, 1) := by decide +kernel
theorem dL_law_894 : decode cL_law 894 = .ok (.aload_n 0, 1) := by decide +kernel
theorem dL_law_895 : decode cL_law 895 = .ok (.iload 5, 2) := by decide +kernel
theorem dL_law_897 : decode cL_law 897 = .ok (.iconst 2, 1) := by decide +kernel
theorem dL_law_898 : decode cL_law 898 = .ok (.iadd, 1) := by decide +kernel
theorem dL_law_899 : decode cL_law 899 = .ok (.iaload, 1) := by decide +kernel
theorem dL_law_900 : decode cL_law 900 = .ok (.aload_n 3, 1) := by decide +kernel
theorem dL_law_901 : decode cL_law 901 = .ok (.invokestatic 154, 3) := by decide +kernel
theorem dL_law_904 : decode cL_law 904 = .ok (.istore 6, 2) := by decide +kernel
theorem dL_law_906 : decode cL_law 906 = .ok (.aload_n 2, 1) := by decide +kernel
theorem dL_law_907 : decode cL_law 907 = .ok (.aload_n 0, 1) := by decide +kernel
theorem dL_law_908 : decode cL_law 908 = .ok (.iload 5, 2) := by decide +kernel
theorem dL_law_910 : decode cL_law 910 = .ok (.iconst 1, 1) := by decide +kernel
theorem dL_law_911 : decode cL_law 911 = .ok (.iadd, 1) := by decide +kernel
theorem dL_law_912 : decode cL_law 912 = .ok (.iaload, 1) := by decide +kernel
theorem dL_law_913 : decode cL_law 913 = .ok (.aload_n 0, 1) := by decide +kernel
theorem dL_law_914 : decode cL_law 914 = .ok (.iload 5, 2) := by decide +kernel
theorem dL_law_916 : decode cL_law 916 = .ok (.iconst 2, 1) := by decide +kernel
theorem dL_law_917 : decode cL_law 917 = .ok (.iadd, 1) := by decide +kernel
theorem dL_law_918 : decode cL_law 918 = .ok (.iaload, 1) := by decide +kernel
theorem dL_law_919 : decode cL_law 919 = .ok (.invokevirtual 156, 3) := by decide +kernel
theorem dL_law_922 : decode cL_law 922 = .ok (.istore 7, 2) := by decide +kernel
theorem dL_law_924 : decode cL_law 924 = .ok (.aload_n 2, 1) := by decide +kernel
theorem dL_law_925 : decode cL_law 925 = .ok (.invokevirtual 116, 3) := by decide +kernel
theorem dL_law_928 : decode cL_law 928 = .ok (.iload 6, 2) := by decide +kernel
theorem dL_law_930 : decode cL_law 930 = .ok (.if_icmp .eq 5, 3) := by decide +kernel
theorem dL_law_933 : decode cL_law 933 = .ok (.iconst 0, 1) := by decide +kernel
theorem dL_law_934 : decode cL_law 934 = .ok (.ireturn, 1) := by decide +kernel
theorem dL_law_935 : decode cL_law 935 = .ok (.iload 6, 2) := by decide +kernel
theorem dL_law_937 : decode cL_law 937 = .ok (.ifCond .ne 15, 3) := by decide +kernel
theorem dL_law_940 : decode cL_law 940 = .ok (.aload_n 3, 1) := by decide +kernel
theorem dL_law_941 : decode cL_law 941 = .ok (.iconst 0, 1) := by decide +kernel
theorem dL_law_942 : decode cL_law 942 = .ok (.laload, 1) := by decide +kernel
theorem dL_law_943 : decode cL_law 943 = .ok (.iload 7, 2) := by decide +kernel
theorem dL_law_945 : decode cL_law 945 = .ok (.i2l, 1) := by decide +kernel
theorem dL_law_946 : decode cL_law 946 = .ok (.lcmp, 1) := by decide +kernel
theorem dL_law_947 : decode cL_law 947 = .ok (.ifCond .eq 5, 3) := by decide +kernel
theorem dL_law_950 : decode cL_law 950 = .ok (.iconst 0, 1) := by decide +kernel
theorem dL_law_951 : decode cL_law 951 = .ok (.ireturn, 1) := by decide +kernel
theorem dL_law_952 : decode cL_law 952 = .ok (.goto 868, 3) := by decide +kernel
theorem dL_law_955 : decode cL_law 955 = .ok (.aload_n 1, 1) := by decide +kernel
theorem dL_law_956 : decode cL_law 956 = .ok (.aload_n 0, 1) := by decide +kernel
theorem dL_law_957 : decode cL_law 957 = .ok (.iload 5, 2) := by decide +kernel
theorem dL_law_959 : decode cL_law 959 = .ok (.iconst 1, 1) := by decide +kernel
theorem dL_law_960 : decode cL_law 960 = .ok (.iadd, 1) := by decide +kernel
theorem dL_law_961 : decode cL_law 961 = .ok (.iaload, 1) := by decide +kernel
theorem dL_law_962 : decode cL_law 962 = .ok (.aload_n 3, 1) := by decide +kernel
theorem dL_law_963 : decode cL_law 963 = .ok (.invokestatic 157, 3) := by decide +kernel
theorem dL_law_966 : decode cL_law 966 = .ok (.istore 6, 2) := by decide +kernel
theorem dL_law_968 : decode cL_law 968 = .ok (.aload_n 2, 1) := by decide +kernel
theorem dL_law_969 : decode cL_law 969 = .ok (.aload_n 0, 1) := by decide +kernel
theorem dL_law_970 : decode cL_law 970 = .ok (.iload 5, 2) := by decide +kernel
theorem dL_law_972 : decode cL_law 972 = .ok (.iconst 1, 1) := by decide +kernel
theorem dL_law_973 : decode cL_law 973 = .ok (.iadd, 1) := by decide +kernel
theorem dL_law_974 : decode cL_law 974 = .ok (.iaload, 1) := by decide +kernel
theorem dL_law_975 : decode cL_law 975 = .ok (.invokevirtual 159, 3) := by decide +kernel
theorem dL_law_978 : decode cL_law 978 = .ok (.istore 7, 2) := by decide +kernel
theorem dL_law_980 : decode cL_law 980 = .ok (.aload_n 2, 1) := by decide +kernel
theorem dL_law_981 : decode cL_law 981 = .ok (.invokevirtual 116, 3) := by decide +kernel
theorem dL_law_984 : decode cL_law 984 = .ok (.iload 6, 2) := by decide +kernel
theorem dL_law_986 : decode cL_law 986 = .ok (.if_icmp .eq 5, 3) := by decide +kernel
theorem dL_law_989 : decode cL_law 989 = .ok (.iconst 0, 1) := by decide +kernel
theorem dL_law_990 : decode cL_law 990 = .ok (.ireturn, 1) := by decide +kernel
theorem dL_law_991 : decode cL_law 991 = .ok (.iload 6, 2) := by decide +kernel
theorem dL_law_993 : decode cL_law 993 = .ok (.ifCond .ne 15, 3) := by decide +kernel
theorem dL_law_996 : decode cL_law 996 = .ok (.aload_n 3, 1) := by decide +kernel
theorem dL_law_997 : decode cL_law 997 = .ok (.iconst 0, 1) := by decide +kernel
theorem dL_law_998 : decode cL_law 998 = .ok (.laload, 1) := by decide +kernel
theorem dL_law_999 : decode cL_law 999 = .ok (.iload 7, 2) := by decide +kernel
theorem dL_law_1001 : decode cL_law 1001 = .ok (.i2l, 1) := by decide +kernel
theorem dL_law_1002 : decode cL_law 1002 = .ok (.lcmp, 1) := by decide +kernel
theorem dL_law_1003 : decode cL_law 1003 = .ok (.ifCond .eq 5, 3) := by decide +kernel
theorem dL_law_1006 : decode cL_law 1006 = .ok (.iconst 0, 1) := by decide +kernel
theorem dL_law_1007 : decode cL_law 1007 = .ok (.ireturn, 1) := by decide +kernel
theorem dL_law_1008 : decode cL_law 1008 = .ok (.goto 812, 3) := by decide +kernel
theorem dL_law_1011 : decode cL_law 1011 = .ok (.aload_n 1, 1) := by decide +kernel
theorem dL_law_1012 : decode cL_law 1012 = .ok (.aload_n 0, 1) := by decide +kernel
theorem dL_law_1013 : decode cL_law 1013 = .ok (.iload 5, 2) := by decide +kernel
theorem dL_law_1015 : decode cL_law 1015 = .ok (.iconst 1, 1) := by decide +kernel
theorem dL_law_1016 : decode cL_law 1016 = .ok (.iadd, 1) := by decide +kernel
theorem dL_law_1017 : decode cL_law 1017 = .ok (.iaload, 1) := by decide +kernel
theorem dL_law_1018 : decode cL_law 1018 = .ok (.aload_n 3, 1) := by decide +kernel
theorem dL_law_1019 : decode cL_law 1019 = .ok (.invokestatic 160, 3) := by decide +kernel
theorem dL_law_1022 : decode cL_law 1022 = .ok (.istore 6, 2) := by decide +kernel
theorem dL_law_1024 : decode cL_law 1024 = .ok (.aload_n 2, 1) := by decide +kernel
theorem dL_law_1025 : decode cL_law 1025 = .ok (.aload_n 0, 1) := by decide +kernel
theorem dL_law_1026 : decode cL_law 1026 = .ok (.iload 5, 2) := by decide +kernel
theorem dL_law_1028 : decode cL_law 1028 = .ok (.iconst 1, 1) := by decide +kernel
theorem dL_law_1029 : decode cL_law 1029 = .ok (.iadd, 1) := by decide +kernel
theorem dL_law_1030 : decode cL_law 1030 = .ok (.iaload, 1) := by decide +kernel
theorem dL_law_1031 : decode cL_law 1031 = .ok (.invokevirtual 162, 3) := by decide +kernel
theorem dL_law_1034 : decode cL_law 1034 = .ok (.istore 7, 2) := by decide +kernel
theorem dL_law_1036 : decode cL_law 1036 = .ok (.aload_n 2, 1) := by decide +kernel
theorem dL_law_1037 : decode cL_law 1037 = .ok (.invokevirtual 116, 3) := by decide +kernel
theorem dL_law_1040 : decode cL_law 1040 = .ok (.iload 6, 2) := by decide +kernel
theorem dL_law_1042 : decode cL_law 1042 = .ok (.if_icmp .eq 5, 3) := by decide +kernel
theorem dL_law_1045 : decode cL_law 1045 = .ok (.iconst 0, 1) := by decide +kernel
theorem dL_law_1046 : decode cL_law 1046 = .ok (.ireturn, 1) := by decide +kernel
theorem dL_law_1047 : decode cL_law 1047 = .ok (.iload 6, 2) := by decide +kernel
theorem dL_law_1049 : decode cL_law 1049 = .ok (.ifCond .ne 15, 3) := by decide +kernel
theorem dL_law_1052 : decode cL_law 1052 = .ok (.aload_n 3, 1) := by decide +kernel
theorem dL_law_1053 : decode cL_law 1053 = .ok (.iconst 0, 1) := by decide +kernel
theorem dL_law_1054 : decode cL_law 1054 = .ok (.laload, 1) := by decide +kernel
theorem dL_law_1055 : decode cL_law 1055 = .ok (.iload 7, 2) := by decide +kernel
theorem dL_law_1057 : decode cL_law 1057 = .ok (.i2l, 1) := by decide +kernel
theorem dL_law_1058 : decode cL_law 1058 = .ok (.lcmp, 1) := by decide +kernel
theorem dL_law_1059 : decode cL_law 1059 = .ok (.ifCond .eq 5, 3) := by decide +kernel
theorem dL_law_1062 : decode cL_law 1062 = .ok (.iconst 0, 1) := by decide +kernel
theorem dL_law_1063 : decode cL_law 1063 = .ok (.ireturn, 1) := by decide +kernel
theorem dL_law_1064 : decode cL_law 1064 = .ok (.goto 756, 3) := by decide +kernel
theorem dL_law_1067 : decode cL_law 1067 = .ok (.aload_n 1, 1) := by decide +kernel
theorem dL_law_1068 : decode cL_law 1068 = .ok (.aload_n 0, 1) := by decide +kernel
theorem dL_law_1069 : decode cL_law 1069 = .ok (.iload 5, 2) := by decide +kernel
theorem dL_law_1071 : decode cL_law 1071 = .ok (.iconst 1, 1) := by decide +kernel
theorem dL_law_1072 : decode cL_law 1072 = .ok (.iadd, 1) := by decide +kernel
theorem dL_law_1073 : decode cL_law 1073 = .ok (.iaload, 1) := by decide +kernel
theorem dL_law_1074 : decode cL_law 1074 = .ok (.aload_n 3, 1) := by decide +kernel
theorem dL_law_1075 : decode cL_law 1075 = .ok (.invokestatic 163, 3) := by decide +kernel
theorem dL_law_1078 : decode cL_law 1078 = .ok (.istore 6, 2) := by decide +kernel
theorem dL_law_1080 : decode cL_law 1080 = .ok (.aload_n 2, 1) := by decide +kernel
theorem dL_law_1081 : decode cL_law 1081 = .ok (.aload_n 0, 1) := by decide +kernel
theorem dL_law_1082 : decode cL_law 1082 = .ok (.iload 5, 2) := by decide +kernel
theorem dL_law_1084 : decode cL_law 1084 = .ok (.iconst 1, 1) := by decide +kernel
theorem dL_law_1085 : decode cL_law 1085 = .ok (.iadd, 1) := by decide +kernel
theorem dL_law_1086 : decode cL_law 1086 = .ok (.iaload, 1) := by decide +kernel
theorem dL_law_1087 : decode cL_law 1087 = .ok (.invokevirtual 165, 3) := by decide +kernel
theorem dL_law_1090 : decode cL_law 1090 = .ok (.istore 7, 2) := by decide +kernel
theorem dL_law_1092 : decode cL_law 1092 = .ok (.aload_n 2, 1) := by decide +kernel
theorem dL_law_1093 : decode cL_law 1093 = .ok (.invokevirtual 116, 3) := by decide +kernel
theorem dL_law_1096 : decode cL_law 1096 = .ok (.iload 6, 2) := by decide +kernel
theorem dL_law_1098 : decode cL_law 1098 = .ok (.if_icmp .eq 5, 3) := by decide +kernel
theorem dL_law_1101 : decode cL_law 1101 = .ok (.iconst 0, 1) := by decide +kernel
theorem dL_law_1102 : decode cL_law 1102 = .ok (.ireturn, 1) := by decide +kernel
theorem dL_law_1103 : decode cL_law 1103 = .ok (.iload 6, 2) := by decide +kernel
theorem dL_law_1105 : decode cL_law 1105 = .ok (.ifCond .ne 15, 3) := by decide +kernel
theorem dL_law_1108 : decode cL_law 1108 = .ok (.aload_n 3, 1) := by decide +kernel
theorem dL_law_1109 : decode cL_law 1109 = .ok (.iconst 0, 1) := by decide +kernel
theorem dL_law_1110 : decode cL_law 1110 = .ok (.laload, 1) := by decide +kernel
theorem dL_law_1111 : decode cL_law 1111 = .ok (.iload 7, 2) := by decide +kernel
theorem dL_law_1113 : decode cL_law 1113 = .ok (.i2l, 1) := by decide +kernel
theorem dL_law_1114 : decode cL_law 1114 = .ok (.lcmp, 1) := by decide +kernel
theorem dL_law_1115 : decode cL_law 1115 = .ok (.ifCond .eq 5, 3) := by decide +kernel
theorem dL_law_1118 : decode cL_law 1118 = .ok (.iconst 0, 1) := by decide +kernel
theorem dL_law_1119 : decode cL_law 1119 = .ok (.ireturn, 1) := by decide +kernel
theorem dL_law_1120 : decode cL_law 1120 = .ok (.goto 700, 3) := by decide +kernel
theorem dL_law_1123 : decode cL_law 1123 = .ok (.aload_n 1, 1) := by decide +kernel
theorem dL_law_1124 : decode cL_law 1124 = .ok (.aload_n 0, 1) := by decide +kernel
theorem dL_law_1125 : decode cL_law 1125 = .ok (.iload 5, 2) := by decide +kernel
theorem dL_law_1127 : decode cL_law 1127 = .ok (.iconst 1, 1) := by decide +kernel
theorem dL_law_1128 : decode cL_law 1128 = .ok (.iadd, 1) := by decide +kernel
theorem dL_law_1129 : decode cL_law 1129 = .ok (.iaload, 1) := by decide +kernel
theorem dL_law_1130 : decode cL_law 1130 = .ok (.aload_n 3, 1) := by decide +kernel
theorem dL_law_1131 : decode cL_law 1131 = .ok (.invokestatic 166, 3) := by decide +kernel
theorem dL_law_1134 : decode cL_law 1134 = .ok (.istore 6, 2) := by decide +kernel
theorem dL_law_1136 : decode cL_law 1136 = .ok (.aload_n 2, 1) := by decide +kernel
theorem dL_law_1137 : decode cL_law 1137 = .ok (.aload_n 0, 1) := by decide +kernel
theorem dL_law_1138 : decode cL_law 1138 = .ok (.iload 5, 2) := by decide +kernel
theorem dL_law_1140 : decode cL_law 1140 = .ok (.iconst 1, 1) := by decide +kernel
theorem dL_law_1141 : decode cL_law 1141 = .ok (.iadd, 1) := by decide +kernel
theorem dL_law_1142 : decode cL_law 1142 = .ok (.iaload, 1) := by decide +kernel
theorem dL_law_1143 : decode cL_law 1143 = .ok (.invokevirtual 168, 3) := by decide +kernel
theorem dL_law_1146 : decode cL_law 1146 = .ok (.istore 7, 2) := by decide +kernel
theorem dL_law_1148 : decode cL_law 1148 = .ok (.aload_n 2, 1) := by decide +kernel
theorem dL_law_1149 : decode cL_law 1149 = .ok (.invokevirtual 116, 3) := by decide +kernel
theorem dL_law_1152 : decode cL_law 1152 = .ok (.iload 6, 2) := by decide +kernel
theorem dL_law_1154 : decode cL_law 1154 = .ok (.if_icmp .eq 5, 3) := by decide +kernel
theorem dL_law_1157 : decode cL_law 1157 = .ok (.iconst 0, 1) := by decide +kernel
theorem dL_law_1158 : decode cL_law 1158 = .ok (.ireturn, 1) := by decide +kernel
theorem dL_law_1159 : decode cL_law 1159 = .ok (.iload 6, 2) := by decide +kernel
theorem dL_law_1161 : decode cL_law 1161 = .ok (.ifCond .ne 15, 3) := by decide +kernel
theorem dL_law_1164 : decode cL_law 1164 = .ok (.aload_n 3, 1) := by decide +kernel
theorem dL_law_1165 : decode cL_law 1165 = .ok (.iconst 0, 1) := by decide +kernel
theorem dL_law_1166 : decode cL_law 1166 = .ok (.laload, 1) := by decide +kernel
theorem dL_law_1167 : decode cL_law 1167 = .ok (.iload 7, 2) := by decide +kernel
theorem dL_law_1169 : decode cL_law 1169 = .ok (.i2l, 1) := by decide +kernel
theorem dL_law_1170 : decode cL_law 1170 = .ok (.lcmp, 1) := by decide +kernel
theorem dL_law_1171 : decode cL_law 1171 = .ok (.ifCond .eq 5, 3) := by decide +kernel
theorem dL_law_1174 : decode cL_law 1174 = .ok (.iconst 0, 1) := by decide +kernel
theorem dL_law_1175 : decode cL_law 1175 = .ok (.ireturn, 1) := by decide +kernel
theorem dL_law_1176 : decode cL_law 1176 = .ok (.goto 644, 3) := by decide +kernel
theorem dL_law_1179 : decode cL_law 1179 = .ok (.aload_n 1, 1) := by decide +kernel
theorem dL_law_1180 : decode cL_law 1180 = .ok (.aload_n 3, 1) := by decide +kernel
theorem dL_law_1181 : decode cL_law 1181 = .ok (.invokestatic 169, 3) := by decide +kernel
theorem dL_law_1184 : decode cL_law 1184 = .ok (.istore 6, 2) := by decide +kernel
theorem dL_law_1186 : decode cL_law 1186 = .ok (.aload_n 2, 1) := by decide +kernel
theorem dL_law_1187 : decode cL_law 1187 = .ok (.invokevirtual 172, 3) := by decide +kernel
theorem dL_law_1190 : decode cL_law 1190 = .ok (.istore 7, 2) := by decide +kernel
theorem dL_law_1192 : decode cL_law 1192 = .ok (.aload_n 2, 1) := by decide +kernel
theorem dL_law_1193 : decode cL_law 1193 = .ok (.invokevirtual 116, 3) := by decide +kernel
theorem dL_law_1196 : decode cL_law 1196 = .ok (.iload 6, 2) := by decide +kernel
theorem dL_law_1198 : decode cL_law 1198 = .ok (.if_icmp .eq 5, 3) := by decide +kernel
theorem dL_law_1201 : decode cL_law 1201 = .ok (.iconst 0, 1) := by decide +kernel
theorem dL_law_1202 : decode cL_law 1202 = .ok (.ireturn, 1) := by decide +kernel
theorem dL_law_1203 : decode cL_law 1203 = .ok (.iload 6, 2) := by decide +kernel
theorem dL_law_1205 : decode cL_law 1205 = .ok (.ifCond .ne 15, 3) := by decide +kernel
theorem dL_law_1208 : decode cL_law 1208 = .ok (.aload_n 3, 1) := by decide +kernel
theorem dL_law_1209 : decode cL_law 1209 = .ok (.iconst 0, 1) := by decide +kernel
theorem dL_law_1210 : decode cL_law 1210 = .ok (.laload, 1) := by decide +kernel
theorem dL_law_1211 : decode cL_law 1211 = .ok (.iload 7, 2) := by decide +kernel
theorem dL_law_1213 : decode cL_law 1213 = .ok (.i2l, 1) := by decide +kernel
theorem dL_law_1214 : decode cL_law 1214 = .ok (.lcmp, 1) := by decide +kernel
theorem dL_law_1215 : decode cL_law 1215 = .ok (.ifCond .eq 5, 3) := by decide +kernel
theorem dL_law_1218 : decode cL_law 1218 = .ok (.iconst 0, 1) := by decide +kernel
theorem dL_law_1219 : decode cL_law 1219 = .ok (.ireturn, 1) := by decide +kernel
theorem dL_law_1220 : decode cL_law 1220 = .ok (.goto 600, 3) := by decide +kernel
theorem dL_law_1223 : decode cL_law 1223 = .ok (.aload_n 1, 1) := by decide +kernel
theorem dL_law_1224 : decode cL_law 1224 = .ok (.aload_n 0, 1) := by decide +kernel
theorem dL_law_1225 : decode cL_law 1225 = .ok (.iload 5, 2) := by decide +kernel
theorem dL_law_1227 : decode cL_law 1227 = .ok (.iconst 1, 1) := by decide +kernel
theorem dL_law_1228 : decode cL_law 1228 = .ok (.iadd, 1) := by decide +kernel
theorem dL_law_1229 : decode cL_law 1229 = .ok (.iaload, 1) := by decide +kernel
theorem dL_law_1230 : decode cL_law 1230 = .ok (.aload_n 3, 1) := by decide +kernel
theorem dL_law_1231 : decode cL_law 1231 = .ok (.invokestatic 173, 3) := by decide +kernel
theorem dL_law_1234 : decode cL_law 1234 = .ok (.istore 6, 2) := by decide +kernel
theorem dL_law_1236 : decode cL_law 1236 = .ok (.aload_n 2, 1) := by decide +kernel
theorem dL_law_1237 : decode cL_law 1237 = .ok (.aload_n 0, 1) := by decide +kernel
theorem dL_law_1238 : decode cL_law 1238 = .ok (.iload 5, 2) := by decide +kernel
theorem dL_law_1240 : decode cL_law 1240 = .ok (.iconst 1, 1) := by decide +kernel
theorem dL_law_1241 : decode cL_law 1241 = .ok (.iadd, 1) := by decide +kernel
theorem dL_law_1242 : decode cL_law 1242 = .ok (.iaload, 1) := by decide +kernel
theorem dL_law_1243 : decode cL_law 1243 = .ok (.invokevirtual 175, 3) := by decide +kernel
theorem dL_law_1246 : decode cL_law 1246 = .ok (.istore 7, 2) := by decide +kernel
theorem dL_law_1248 : decode cL_law 1248 = .ok (.aload_n 2, 1) := by decide +kernel
theorem dL_law_1249 : decode cL_law 1249 = .ok (.invokevirtual 116, 3) := by decide +kernel
theorem dL_law_1252 : decode cL_law 1252 = .ok (.iload 6, 2) := by decide +kernel
theorem dL_law_1254 : decode cL_law 1254 = .ok (.if_icmp .eq 5, 3) := by decide +kernel
theorem dL_law_1257 : decode cL_law 1257 = .ok (.iconst 0, 1) := by decide +kernel
theorem dL_law_1258 : decode cL_law 1258 = .ok (.ireturn, 1) := by decide +kernel
theorem dL_law_1259 : decode cL_law 1259 = .ok (.iload 6, 2) := by decide +kernel
theorem dL_law_1261 : decode cL_law 1261 = .ok (.ifCond .ne 22, 3) := by decide +kernel
theorem dL_law_1264 : decode cL_law 1264 = .ok (.aload_n 3, 1) := by decide +kernel
theorem dL_law_1265 : decode cL_law 1265 = .ok (.iconst 0, 1) := by decide +kernel
theorem dL_law_1266 : decode cL_law 1266 = .ok (.laload, 1) := by decide +kernel
theorem dL_law_1267 : decode cL_law 1267 = .ok (.iload 7, 2) := by decide +kernel
theorem dL_law_1269 : decode cL_law 1269 = .ok (.ifCond .eq 7, 3) := by decide +kernel
theorem dL_law_1272 : decode cL_law 1272 = .ok (.lconst 1, 1) := by decide +kernel
theorem dL_law_1273 : decode cL_law 1273 = .ok (.goto 4, 3) := by decide +kernel
theorem dL_law_1276 : decode cL_law 1276 = .ok (.lconst 0, 1) := by decide +kernel
theorem dL_law_1277 : decode cL_law 1277 = .ok (.lcmp, 1) := by decide +kernel
theorem dL_law_1278 : decode cL_law 1278 = .ok (.ifCond .eq 5, 3) := by decide +kernel
theorem dL_law_1281 : decode cL_law 1281 = .ok (.iconst 0, 1) := by decide +kernel
theorem dL_law_1282 : decode cL_law 1282 = .ok (.ireturn, 1) := by decide +kernel
theorem dL_law_1283 : decode cL_law 1283 = .ok (.goto 537, 3) := by decide +kernel
theorem dL_law_1286 : decode cL_law 1286 = .ok (.aload_n 1, 1) := by decide +kernel
theorem dL_law_1287 : decode cL_law 1287 = .ok (.aload_n 0, 1) := by decide +kernel
theorem dL_law_1288 : decode cL_law 1288 = .ok (.iload 5, 2) := by decide +kernel
theorem dL_law_1290 : decode cL_law 1290 = .ok (.iconst 1, 1) := by decide +kernel
theorem dL_law_1291 : decode cL_law 1291 = .ok (.iadd, 1) := by decide +kernel
theorem dL_law_1292 : decode cL_law 1292 = .ok (.iaload, 1) := by decide +kernel
theorem dL_law_1293 : decode cL_law 1293 = .ok (.aload_n 3, 1) := by decide +kernel
theorem dL_law_1294 : decode cL_law 1294 = .ok (.invokestatic 176, 3) := by decide +kernel
theorem dL_law_1297 : decode cL_law 1297 = .ok (.istore 6, 2) := by decide +kernel
theorem dL_law_1299 : decode cL_law 1299 = .ok (.aload_n 2, 1) := by decide +kernel
theorem dL_law_1300 : decode cL_law 1300 = .ok (.aload_n 0, 1) := by decide +kernel
theorem dL_law_1301 : decode cL_law 1301 = .ok (.iload 5, 2) := by decide +kernel
theorem dL_law_1303 : decode cL_law 1303 = .ok (.iconst 1, 1) := by decide +kernel
theorem dL_law_1304 : decode cL_law 1304 = .ok (.iadd, 1) := by decide +kernel
theorem dL_law_1305 : decode cL_law 1305 = .ok (.iaload, 1) := by decide +kernel
theorem dL_law_1306 : decode cL_law 1306 = .ok (.invokevirtual 178, 3) := by decide +kernel
theorem dL_law_1309 : decode cL_law 1309 = .ok (.istore 7, 2) := by decide +kernel
theorem dL_law_1311 : decode cL_law 1311 = .ok (.aload_n 2, 1) := by decide +kernel
theorem dL_law_1312 : decode cL_law 1312 = .ok (.invokevirtual 116, 3) := by decide +kernel
theorem dL_law_1315 : decode cL_law 1315 = .ok (.iload 6, 2) := by decide +kernel
theorem dL_law_1317 : decode cL_law 1317 = .ok (.if_icmp .eq 5, 3) := by decide +kernel
theorem dL_law_1320 : decode cL_law 1320 = .ok (.iconst 0, 1) := by decide +kernel
theorem dL_law_1321 : decode cL_law 1321 = .ok (.ireturn, 1) := by decide +kernel
theorem dL_law_1322 : decode cL_law 1322 = .ok (.iload 6, 2) := by decide +kernel
theorem dL_law_1324 : decode cL_law 1324 = .ok (.ifCond .ne 15, 3) := by decide +kernel
theorem dL_law_1327 : decode cL_law 1327 = .ok (.aload_n 3, 1) := by decide +kernel
theorem dL_law_1328 : decode cL_law 1328 = .ok (.iconst 0, 1) := by decide +kernel
theorem dL_law_1329 : decode cL_law 1329 = .ok (.laload, 1) := by decide +kernel
theorem dL_law_1330 : decode cL_law 1330 = .ok (.iload 7, 2) := by decide +kernel
theorem dL_law_1332 : decode cL_law 1332 = .ok (.i2l, 1) := by decide +kernel
theorem dL_law_1333 : decode cL_law 1333 = .ok (.lcmp, 1) := by decide +kernel
theorem dL_law_1334 : decode cL_law 1334 = .ok (.ifCond .eq 5, 3) := by decide +kernel
theorem dL_law_1337 : decode cL_law 1337 = .ok (.iconst 0, 1) := by decide +kernel
theorem dL_law_1338 : decode cL_law 1338 = .ok (.ireturn, 1) := by decide +kernel
theorem dL_law_1339 : decode cL_law 1339 = .ok (.goto 481, 3) := by decide +kernel
theorem dL_law_1342 : decode cL_law 1342 = .ok (.aload_n 1, 1) := by decide +kernel
theorem dL_law_1343 : decode cL_law 1343 = .ok (.aload_n 0, 1) := by decide +kernel
theorem dL_law_1344 : decode cL_law 1344 = .ok (.iload 5, 2) := by decide +kernel
theorem dL_law_1346 : decode cL_law 1346 = .ok (.iconst 1, 1) := by decide +kernel
theorem dL_law_1347 : decode cL_law 1347 = .ok (.iadd, 1) := by decide +kernel
theorem dL_law_1348 : decode cL_law 1348 = .ok (.iaload, 1) := by decide +kernel
theorem dL_law_1349 : decode cL_law 1349 = .ok (.aload_n 3, 1) := by decide +kernel
theorem dL_law_1350 : decode cL_law 1350 = .ok (.invokestatic 179, 3) := by decide +kernel
theorem dL_law_1353 : decode cL_law 1353 = .ok (.istore 6, 2) := by decide +kernel
theorem dL_law_1355 : decode cL_law 1355 = .ok (.aload_n 2, 1) := by decide +kernel
theorem dL_law_1356 : decode cL_law 1356 = .ok (.aload_n 0, 1) := by decide +kernel
theorem dL_law_1357 : decode cL_law 1357 = .ok (.iload 5, 2) := by decide +kernel
theorem dL_law_1359 : decode cL_law 1359 = .ok (.iconst 1, 1) := by decide +kernel
theorem dL_law_1360 : decode cL_law 1360 = .ok (.iadd, 1) := by decide +kernel
theorem dL_law_1361 : decode cL_law 1361 = .ok (.iaload, 1) := by decide +kernel
theorem dL_law_1362 : decode cL_law 1362 = .ok (.invokevirtual 181, 3) := by decide +kernel
theorem dL_law_1365 : decode cL_law 1365 = .ok (.istore 7, 2) := by decide +kernel
theorem dL_law_1367 : decode cL_law 1367 = .ok (.aload_n 2, 1) := by decide +kernel
theorem dL_law_1368 : decode cL_law 1368 = .ok (.invokevirtual 116, 3) := by decide +kernel
theorem dL_law_1371 : decode cL_law 1371 = .ok (.iload 6, 2) := by decide +kernel
theorem dL_law_1373 : decode cL_law 1373 = .ok (.if_icmp .eq 5, 3) := by decide +kernel
theorem dL_law_1376 : decode cL_law 1376 = .ok (.iconst 0, 1) := by decide +kernel
theorem dL_law_1377 : decode cL_law 1377 = .ok (.ireturn, 1) := by decide +kernel
theorem dL_law_1378 : decode cL_law 1378 = .ok (.iload 6, 2) := by decide +kernel
theorem dL_law_1380 : decode cL_law 1380 = .ok (.ifCond .ne 15, 3) := by decide +kernel
theorem dL_law_1383 : decode cL_law 1383 = .ok (.aload_n 3, 1) := by decide +kernel
theorem dL_law_1384 : decode cL_law 1384 = .ok (.iconst 0, 1) := by decide +kernel
theorem dL_law_1385 : decode cL_law 1385 = .ok (.laload, 1) := by decide +kernel
theorem dL_law_1386 : decode cL_law 1386 = .ok (.iload 7, 2) := by decide +kernel
theorem dL_law_1388 : decode cL_law 1388 = .ok (.i2l, 1) := by decide +kernel
theorem dL_law_1389 : decode cL_law 1389 = .ok (.lcmp, 1) := by decide +kernel
theorem dL_law_1390 : decode cL_law 1390 = .ok (.ifCond .eq 5, 3) := by decide +kernel
theorem dL_law_1393 : decode cL_law 1393 = .ok (.iconst 0, 1) := by decide +kernel
theorem dL_law_1394 : decode cL_law 1394 = .ok (.ireturn, 1) := by decide +kernel
theorem dL_law_1395 : decode cL_law 1395 = .ok (.goto 425, 3) := by decide +kernel
theorem dL_law_1398 : decode cL_law 1398 = .ok (.aload_n 1, 1) := by decide +kernel
theorem dL_law_1399 : decode cL_law 1399 = .ok (.aload_n 0, 1) := by decide +kernel
theorem dL_law_1400 : decode cL_law 1400 = .ok (.iload 5, 2) := by decide +kernel
theorem dL_law_1402 : decode cL_law 1402 = .ok (.iconst 1, 1) := by decide +kernel
theorem dL_law_1403 : decode cL_law 1403 = .ok (.iadd, 1) := by decide +kernel
theorem dL_law_1404 : decode cL_law 1404 = .ok (.iaload, 1) := by decide +kernel
theorem dL_law_1405 : decode cL_law 1405 = .ok (.aload_n 0, 1) := by decide +kernel
theorem dL_law_1406 : decode cL_law 1406 = .ok (.iload 5, 2) := by decide +kernel
theorem dL_law_1408 : decode cL_law 1408 = .ok (.iconst 2, 1) := by decide +kernel
theorem dL_law_1409 : decode cL_law 1409 = .ok (.iadd, 1) := by decide +kernel
theorem dL_law_1410 : decode cL_law 1410 = .ok (.iaload, 1) := by decide +kernel
theorem dL_law_1411 : decode cL_law 1411 = .ok (.aload_n 3, 1) := by decide +kernel
theorem dL_law_1412 : decode cL_law 1412 = .ok (.invokestatic 182, 3) := by decide +kernel
theorem dL_law_1415 : decode cL_law 1415 = .ok (.istore 6, 2) := by decide +kernel
theorem dL_law_1417 : decode cL_law 1417 = .ok (.aload_n 2, 1) := by decide +kernel
theorem dL_law_1418 : decode cL_law 1418 = .ok (.aload_n 0, 1) := by decide +kernel
theorem dL_law_1419 : decode cL_law 1419 = .ok (.iload 5, 2) := by decide +kernel
theorem dL_law_1421 : decode cL_law 1421 = .ok (.iconst 1, 1) := by decide +kernel
theorem dL_law_1422 : decode cL_law 1422 = .ok (.iadd, 1) := by decide +kernel
theorem dL_law_1423 : decode cL_law 1423 = .ok (.iaload, 1) := by decide +kernel
theorem dL_law_1424 : decode cL_law 1424 = .ok (.aload_n 0, 1) := by decide +kernel
theorem dL_law_1425 : decode cL_law 1425 = .ok (.iload 5, 2) := by decide +kernel
theorem dL_law_1427 : decode cL_law 1427 = .ok (.iconst 2, 1) := by decide +kernel
theorem dL_law_1428 : decode cL_law 1428 = .ok (.iadd, 1) := by decide +kernel
theorem dL_law_1429 : decode cL_law 1429 = .ok (.iaload, 1) := by decide +kernel
theorem dL_law_1430 : decode cL_law 1430 = .ok (.invokevirtual 184, 3) := by decide +kernel
theorem dL_law_1433 : decode cL_law 1433 = .ok (.istore 7, 2) := by decide +kernel
theorem dL_law_1435 : decode cL_law 1435 = .ok (.aload_n 2, 1) := by decide +kernel
theorem dL_law_1436 : decode cL_law 1436 = .ok (.invokevirtual 116, 3) := by decide +kernel
theorem dL_law_1439 : decode cL_law 1439 = .ok (.iload 6, 2) := by decide +kernel
theorem dL_law_1441 : decode cL_law 1441 = .ok (.if_icmp .eq 5, 3) := by decide +kernel
theorem dL_law_1444 : decode cL_law 1444 = .ok (.iconst 0, 1) := by decide +kernel
theorem dL_law_1445 : decode cL_law 1445 = .ok (.ireturn, 1) := by decide +kernel
theorem dL_law_1446 : decode cL_law 1446 = .ok (.iload 6, 2) := by decide +kernel
theorem dL_law_1448 : decode cL_law 1448 = .ok (.ifCond .ne 15, 3) := by decide +kernel
theorem dL_law_1451 : decode cL_law 1451 = .ok (.aload_n 3, 1) := by decide +kernel
theorem dL_law_1452 : decode cL_law 1452 = .ok (.iconst 0, 1) := by decide +kernel
theorem dL_law_1453 : decode cL_law 1453 = .ok (.laload, 1) := by decide +kernel
theorem dL_law_1454 : decode cL_law 1454 = .ok (.iload 7, 2) := by decide +kernel
theorem dL_law_1456 : decode cL_law 1456 = .ok (.i2l, 1) := by decide +kernel
theorem dL_law_1457 : decode cL_law 1457 = .ok (.lcmp, 1) := by decide +kernel
theorem dL_law_1458 : decode cL_law 1458 = .ok (.ifCond .eq 5, 3) := by decide +kernel
theorem dL_law_1461 : decode cL_law 1461 = .ok (.iconst 0, 1) := by decide +kernel
theorem dL_law_1462 : decode cL_law 1462 = .ok (.ireturn, 1) := by decide +kernel
theorem dL_law_1463 : decode cL_law 1463 = .ok (.goto 357, 3) := by decide +kernel
theorem dL_law_1466 : decode cL_law 1466 = .ok (.aload_n 1, 1) := by decide +kernel
theorem dL_law_1467 : decode cL_law 1467 = .ok (.aload_n 0, 1) := by decide +kernel
theorem dL_law_1468 : decode cL_law 1468 = .ok (.iload 5, 2) := by decide +kernel
theorem dL_law_1470 : decode cL_law 1470 = .ok (.iconst 1, 1) := by decide +kernel
theorem dL_law_1471 : decode cL_law 1471 = .ok (.iadd, 1) := by decide +kernel
theorem dL_law_1472 : decode cL_law 1472 = .ok (.iaload, 1) := by decide +kernel
theorem dL_law_1473 : decode cL_law 1473 = .ok (.aload_n 0, 1) := by decide +kernel
theorem dL_law_1474 : decode cL_law 1474 = .ok (.iload 5, 2) := by decide +kernel
theorem dL_law_1476 : decode cL_law 1476 = .ok (.iconst 2, 1) := by decide +kernel
theorem dL_law_1477 : decode cL_law 1477 = .ok (.iadd, 1) := by decide +kernel
theorem dL_law_1478 : decode cL_law 1478 = .ok (.iaload, 1) := by decide +kernel
theorem dL_law_1479 : decode cL_law 1479 = .ok (.aload_n 3, 1) := by decide +kernel
theorem dL_law_1480 : decode cL_law 1480 = .ok (.invokestatic 185, 3) := by decide +kernel
theorem dL_law_1483 : decode cL_law 1483 = .ok (.istore 6, 2) := by decide +kernel
theorem dL_law_1485 : decode cL_law 1485 = .ok (.aload_n 2, 1) := by decide +kernel
theorem dL_law_1486 : decode cL_law 1486 = .ok (.aload_n 0, 1) := by decide +kernel
theorem dL_law_1487 : decode cL_law 1487 = .ok (.iload 5, 2) := by decide +kernel
theorem dL_law_1489 : decode cL_law 1489 = .ok (.iconst 1, 1) := by decide +kernel
theorem dL_law_1490 : decode cL_law 1490 = .ok (.iadd, 1) := by decide +kernel
theorem dL_law_1491 : decode cL_law 1491 = .ok (.iaload, 1) := by decide +kernel
theorem dL_law_1492 : decode cL_law 1492 = .ok (.aload_n 0, 1) := by decide +kernel
theorem dL_law_1493 : decode cL_law 1493 = .ok (.iload 5, 2) := by decide +kernel
theorem dL_law_1495 : decode cL_law 1495 = .ok (.iconst 2, 1) := by decide +kernel
theorem dL_law_1496 : decode cL_law 1496 = .ok (.iadd, 1) := by decide +kernel
theorem dL_law_1497 : decode cL_law 1497 = .ok (.iaload, 1) := by decide +kernel
theorem dL_law_1498 : decode cL_law 1498 = .ok (.invokevirtual 187, 3) := by decide +kernel
theorem dL_law_1501 : decode cL_law 1501 = .ok (.istore 7, 2) := by decide +kernel
theorem dL_law_1503 : decode cL_law 1503 = .ok (.aload_n 2, 1) := by decide +kernel
theorem dL_law_1504 : decode cL_law 1504 = .ok (.invokevirtual 116, 3) := by decide +kernel
theorem dL_law_1507 : decode cL_law 1507 = .ok (.iload 6, 2) := by decide +kernel
theorem dL_law_1509 : decode cL_law 1509 = .ok (.if_icmp .eq 5, 3) := by decide +kernel
theorem dL_law_1512 : decode cL_law 1512 = .ok (.iconst 0, 1) := by decide +kernel
theorem dL_law_1513 : decode cL_law 1513 = .ok (.ireturn, 1) := by decide +kernel
theorem dL_law_1514 : decode cL_law 1514 = .ok (.iload 6, 2) := by decide +kernel
theorem dL_law_1516 : decode cL_law 1516 = .ok (.ifCond .ne 22, 3) := by decide +kernel
theorem dL_law_1519 : decode cL_law 1519 = .ok (.aload_n 3, 1) := by decide +kernel
theorem dL_law_1520 : decode cL_law 1520 = .ok (.iconst 0, 1) := by decide +kernel
theorem dL_law_1521 : decode cL_law 1521 = .ok (.laload, 1) := by decide +kernel
theorem dL_law_1522 : decode cL_law 1522 = .ok (.iload 7, 2) := by decide +kernel
theorem dL_law_1524 : decode cL_law 1524 = .ok (.ifCond .eq 7, 3) := by decide +kernel
theorem dL_law_1527 : decode cL_law 1527 = .ok (.lconst 1, 1) := by decide +kernel
theorem dL_law_1528 : decode cL_law 1528 = .ok (.goto 4, 3) := by decide +kernel
theorem dL_law_1531 : decode cL_law 1531 = .ok (.lconst 0, 1) := by decide +kernel
theorem dL_law_1532 : decode cL_law 1532 = .ok (.lcmp, 1) := by decide +kernel
theorem dL_law_1533 : decode cL_law 1533 = .ok (.ifCond .eq 5, 3) := by decide +kernel
theorem dL_law_1536 : decode cL_law 1536 = .ok (.iconst 0, 1) := by decide +kernel
theorem dL_law_1537 : decode cL_law 1537 = .ok (.ireturn, 1) := by decide +kernel
theorem dL_law_1538 : decode cL_law 1538 = .ok (.goto 282, 3) := by decide +kernel
theorem dL_law_1541 : decode cL_law 1541 = .ok (.aload_n 1, 1) := by decide +kernel
theorem dL_law_1542 : decode cL_law 1542 = .ok (.aload_n 0, 1) := by decide +kernel
theorem dL_law_1543 : decode cL_law 1543 = .ok (.iload 5, 2) := by decide +kernel
theorem dL_law_1545 : decode cL_law 1545 = .ok (.iconst 1, 1) := by decide +kernel
theorem dL_law_1546 : decode cL_law 1546 = .ok (.iadd, 1) := by decide +kernel
theorem dL_law_1547 : decode cL_law 1547 = .ok (.iaload, 1) := by decide +kernel
theorem dL_law_1548 : decode cL_law 1548 = .ok (.aload_n 0, 1) := by decide +kernel
theorem dL_law_1549 : decode cL_law 1549 = .ok (.iload 5, 2) := by decide +kernel
theorem dL_law_1551 : decode cL_law 1551 = .ok (.iconst 2, 1) := by decide +kernel
theorem dL_law_1552 : decode cL_law 1552 = .ok (.iadd, 1) := by decide +kernel
theorem dL_law_1553 : decode cL_law 1553 = .ok (.iaload, 1) := by decide +kernel
theorem dL_law_1554 : decode cL_law 1554 = .ok (.aload_n 3, 1) := by decide +kernel
theorem dL_law_1555 : decode cL_law 1555 = .ok (.invokestatic 188, 3) := by decide +kernel
theorem dL_law_1558 : decode cL_law 1558 = .ok (.istore 6, 2) := by decide +kernel
theorem dL_law_1560 : decode cL_law 1560 = .ok (.aload_n 2, 1) := by decide +kernel
theorem dL_law_1561 : decode cL_law 1561 = .ok (.aload_n 0, 1) := by decide +kernel
theorem dL_law_1562 : decode cL_law 1562 = .ok (.iload 5, 2) := by decide +kernel
theorem dL_law_1564 : decode cL_law 1564 = .ok (.iconst 1, 1) := by decide +kernel
theorem dL_law_1565 : decode cL_law 1565 = .ok (.iadd, 1) := by decide +kernel
theorem dL_law_1566 : decode cL_law 1566 = .ok (.iaload, 1) := by decide +kernel
theorem dL_law_1567 : decode cL_law 1567 = .ok (.aload_n 0, 1) := by decide +kernel
theorem dL_law_1568 : decode cL_law 1568 = .ok (.iload 5, 2) := by decide +kernel
theorem dL_law_1570 : decode cL_law 1570 = .ok (.iconst 2, 1) := by decide +kernel
theorem dL_law_1571 : decode cL_law 1571 = .ok (.iadd, 1) := by decide +kernel
theorem dL_law_1572 : decode cL_law 1572 = .ok (.iaload, 1) := by decide +kernel
theorem dL_law_1573 : decode cL_law 1573 = .ok (.invokevirtual 190, 3) := by decide +kernel
theorem dL_law_1576 : decode cL_law 1576 = .ok (.istore 7, 2) := by decide +kernel
theorem dL_law_1578 : decode cL_law 1578 = .ok (.aload_n 2, 1) := by decide +kernel
theorem dL_law_1579 : decode cL_law 1579 = .ok (.invokevirtual 116, 3) := by decide +kernel
theorem dL_law_1582 : decode cL_law 1582 = .ok (.iload 6, 2) := by decide +kernel
theorem dL_law_1584 : decode cL_law 1584 = .ok (.if_icmp .eq 5, 3) := by decide +kernel
theorem dL_law_1587 : decode cL_law 1587 = .ok (.iconst 0, 1) := by decide +kernel
theorem dL_law_1588 : decode cL_law 1588 = .ok (.ireturn, 1) := by decide +kernel
theorem dL_law_1589 : decode cL_law 1589 = .ok (.iload 6, 2) := by decide +kernel
theorem dL_law_1591 : decode cL_law 1591 = .ok (.ifCond .ne 15, 3) := by decide +kernel
theorem dL_law_1594 : decode cL_law 1594 = .ok (.aload_n 3, 1) := by decide +kernel
theorem dL_law_1595 : decode cL_law 1595 = .ok (.iconst 0, 1) := by decide +kernel
theorem dL_law_1596 : decode cL_law 1596 = .ok (.laload, 1) := by decide +kernel
theorem dL_law_1597 : decode cL_law 1597 = .ok (.iload 7, 2) := by decide +kernel
theorem dL_law_1599 : decode cL_law 1599 = .ok (.i2l, 1) := by decide +kernel
theorem dL_law_1600 : decode cL_law 1600 = .ok (.lcmp, 1) := by decide +kernel
theorem dL_law_1601 : decode cL_law 1601 = .ok (.ifCond .eq 5, 3) := by decide +kernel
theorem dL_law_1604 : decode cL_law 1604 = .ok (.iconst 0, 1) := by decide +kernel
theorem dL_law_1605 : decode cL_law 1605 = .ok (.ireturn, 1) := by decide +kernel
theorem dL_law_1606 : decode cL_law 1606 = .ok (.goto 214, 3) := by decide +kernel
theorem dL_law_1609 : decode cL_law 1609 = .ok (.aload_n 1, 1) := by decide +kernel
theorem dL_law_1610 : decode cL_law 1610 = .ok (.aload_n 0, 1) := by decide +kernel
theorem dL_law_1611 : decode cL_law 1611 = .ok (.iload 5, 2) := by decide +kernel
theorem dL_law_1613 : decode cL_law 1613 = .ok (.iconst 1, 1) := by decide +kernel
theorem dL_law_1614 : decode cL_law 1614 = .ok (.iadd, 1) := by decide +kernel
theorem dL_law_1615 : decode cL_law 1615 = .ok (.iaload, 1) := by decide +kernel
theorem dL_law_1616 : decode cL_law 1616 = .ok (.aload_n 0, 1) := by decide +kernel
theorem dL_law_1617 : decode cL_law 1617 = .ok (.iload 5, 2) := by decide +kernel
theorem dL_law_1619 : decode cL_law 1619 = .ok (.iconst 2, 1) := by decide +kernel
theorem dL_law_1620 : decode cL_law 1620 = .ok (.iadd, 1) := by decide +kernel
theorem dL_law_1621 : decode cL_law 1621 = .ok (.iaload, 1) := by decide +kernel
theorem dL_law_1622 : decode cL_law 1622 = .ok (.aload_n 0, 1) := by decide +kernel
theorem dL_law_1623 : decode cL_law 1623 = .ok (.iload 5, 2) := by decide +kernel
theorem dL_law_1625 : decode cL_law 1625 = .ok (.iconst 3, 1) := by decide +kernel
theorem dL_law_1626 : decode cL_law 1626 = .ok (.iadd, 1) := by decide +kernel
theorem dL_law_1627 : decode cL_law 1627 = .ok (.iaload, 1) := by decide +kernel
theorem dL_law_1628 : decode cL_law 1628 = .ok (.aload_n 3, 1) := by decide +kernel
theorem dL_law_1629 : decode cL_law 1629 = .ok (.invokestatic 191, 3) := by decide +kernel
theorem dL_law_1632 : decode cL_law 1632 = .ok (.istore 6, 2) := by decide +kernel
theorem dL_law_1634 : decode cL_law 1634 = .ok (.aload_n 2, 1) := by decide +kernel
theorem dL_law_1635 : decode cL_law 1635 = .ok (.aload_n 0, 1) := by decide +kernel
theorem dL_law_1636 : decode cL_law 1636 = .ok (.iload 5, 2) := by decide +kernel
theorem dL_law_1638 : decode cL_law 1638 = .ok (.iconst 1, 1) := by decide +kernel
theorem dL_law_1639 : decode cL_law 1639 = .ok (.iadd, 1) := by decide +kernel
theorem dL_law_1640 : decode cL_law 1640 = .ok (.iaload, 1) := by decide +kernel
theorem dL_law_1641 : decode cL_law 1641 = .ok (.aload_n 0, 1) := by decide +kernel
theorem dL_law_1642 : decode cL_law 1642 = .ok (.iload 5, 2) := by decide +kernel
theorem dL_law_1644 : decode cL_law 1644 = .ok (.iconst 2, 1) := by decide +kernel
theorem dL_law_1645 : decode cL_law 1645 = .ok (.iadd, 1) := by decide +kernel
theorem dL_law_1646 : decode cL_law 1646 = .ok (.iaload, 1) := by decide +kernel
theorem dL_law_1647 : decode cL_law 1647 = .ok (.aload_n 0, 1) := by decide +kernel
theorem dL_law_1648 : decode cL_law 1648 = .ok (.iload 5, 2) := by decide +kernel
theorem dL_law_1650 : decode cL_law 1650 = .ok (.iconst 3, 1) := by decide +kernel
theorem dL_law_1651 : decode cL_law 1651 = .ok (.iadd, 1) := by decide +kernel
theorem dL_law_1652 : decode cL_law 1652 = .ok (.iaload, 1) := by decide +kernel
theorem dL_law_1653 : decode cL_law 1653 = .ok (.invokevirtual 193, 3) := by decide +kernel
theorem dL_law_1656 : decode cL_law 1656 = .ok (.istore 7, 2) := by decide +kernel
theorem dL_law_1658 : decode cL_law 1658 = .ok (.aload_n 2, 1) := by decide +kernel
theorem dL_law_1659 : decode cL_law 1659 = .ok (.invokevirtual 116, 3) := by decide +kernel
theorem dL_law_1662 : decode cL_law 1662 = .ok (.iload 6, 2) := by decide +kernel
theorem dL_law_1664 : decode cL_law 1664 = .ok (.if_icmp .eq 5, 3) := by decide +kernel
theorem dL_law_1667 : decode cL_law 1667 = .ok (.iconst 0, 1) := by decide +kernel
theorem dL_law_1668 : decode cL_law 1668 = .ok (.ireturn, 1) := by decide +kernel
theorem dL_law_1669 : decode cL_law 1669 = .ok (.iload 6, 2) := by decide +kernel
theorem dL_law_1671 : decode cL_law 1671 = .ok (.ifCond .ne 15, 3) := by decide +kernel
theorem dL_law_1674 : decode cL_law 1674 = .ok (.aload_n 3, 1) := by decide +kernel
theorem dL_law_1675 : decode cL_law 1675 = .ok (.iconst 0, 1) := by decide +kernel
theorem dL_law_1676 : decode cL_law 1676 = .ok (.laload, 1) := by decide +kernel
theorem dL_law_1677 : decode cL_law 1677 = .ok (.iload 7, 2) := by decide +kernel
theorem dL_law_1679 : decode cL_law 1679 = .ok (.i2l, 1) := by decide +kernel
theorem dL_law_1680 : decode cL_law 1680 = .ok (.lcmp, 1) := by decide +kernel
theorem dL_law_1681 : decode cL_law 1681 = .ok (.ifCond .eq 5, 3) := by decide +kernel
theorem dL_law_1684 : decode cL_law 1684 = .ok (.iconst 0, 1) := by decide +kernel
theorem dL_law_1685 : decode cL_law 1685 = .ok (.ireturn, 1) := by decide +kernel
theorem dL_law_1686 : decode cL_law 1686 = .ok (.goto 134, 3) := by decide +kernel
theorem dL_law_1689 : decode cL_law 1689 = .ok (.aload_n 1, 1) := by decide +kernel
theorem dL_law_1690 : decode cL_law 1690 = .ok (.aload 4, 2) := by decide +kernel
theorem dL_law_1692 : decode cL_law 1692 = .ok (.invokestatic 194, 3) := by decide +kernel
theorem dL_law_1695 : decode cL_law 1695 = .ok (.istore 6, 2) := by decide +kernel
theorem dL_law_1697 : decode cL_law 1697 = .ok (.aload_n 2, 1) := by decide +kernel
theorem dL_law_1698 : decode cL_law 1698 = .ok (.invokevirtual 197, 3) := by decide +kernel
theorem dL_law_1701 : decode cL_law 1701 = .ok (.fstore 7, 2) := by decide +kernel
theorem dL_law_1703 : decode cL_law 1703 = .ok (.aload_n 2, 1) := by decide +kernel
theorem dL_law_1704 : decode cL_law 1704 = .ok (.invokevirtual 116, 3) := by decide +kernel
theorem dL_law_1707 : decode cL_law 1707 = .ok (.iload 6, 2) := by decide +kernel
theorem dL_law_1709 : decode cL_law 1709 = .ok (.if_icmp .eq 5, 3) := by decide +kernel
theorem dL_law_1712 : decode cL_law 1712 = .ok (.iconst 0, 1) := by decide +kernel
theorem dL_law_1713 : decode cL_law 1713 = .ok (.ireturn, 1) := by decide +kernel
theorem dL_law_1714 : decode cL_law 1714 = .ok (.iload 6, 2) := by decide +kernel
theorem dL_law_1716 : decode cL_law 1716 = .ok (.ifCond .ne 36, 3) := by decide +kernel
theorem dL_law_1719 : decode cL_law 1719 = .ok (.aload 4, 2) := by decide +kernel
theorem dL_law_1721 : decode cL_law 1721 = .ok (.iconst 0, 1) := by decide +kernel
theorem dL_law_1722 : decode cL_law 1722 = .ok (.daload, 1) := by decide +kernel
theorem dL_law_1723 : decode cL_law 1723 = .ok (.fload 7, 2) := by decide +kernel
theorem dL_law_1725 : decode cL_law 1725 = .ok (.f2d, 1) := by decide +kernel
theorem dL_law_1726 : decode cL_law 1726 = .ok (.dcmp .l, 1) := by decide +kernel
theorem dL_law_1727 : decode cL_law 1727 = .ok (.ifCond .eq 25, 3) := by decide +kernel
theorem dL_law_1730 : decode cL_law 1730 = .ok (.aload 4, 2) := by decide +kernel
theorem dL_law_1732 : decode cL_law 1732 = .ok (.iconst 0, 1) := by decide +kernel
theorem dL_law_1733 : decode cL_law 1733 = .ok (.daload, 1) := by decide +kernel
theorem dL_law_1734 : decode cL_law 1734 = .ok (.aload 4, 2) := by decide +kernel
theorem dL_law_1736 : decode cL_law 1736 = .ok (.iconst 0, 1) := by decide +kernel
theorem dL_law_1737 : decode cL_law 1737 = .ok (.daload, 1) := by decide +kernel
theorem dL_law_1738 : decode cL_law 1738 = .ok (.dcmp .l, 1) := by decide +kernel
theorem dL_law_1739 : decode cL_law 1739 = .ok (.ifCond .eq 11, 3) := by decide +kernel
theorem dL_law_1742 : decode cL_law 1742 = .ok (.fload 7, 2) := by decide +kernel
theorem dL_law_1744 : decode cL_law 1744 = .ok (.fload 7, 2) := by decide +kernel
theorem dL_law_1746 : decode cL_law 1746 = .ok (.fcmp .l, 1) := by decide +kernel
theorem dL_law_1747 : decode cL_law 1747 = .ok (.ifCond .ne 5, 3) := by decide +kernel
theorem dL_law_1750 : decode cL_law 1750 = .ok (.iconst 0, 1) := by decide +kernel
theorem dL_law_1751 : decode cL_law 1751 = .ok (.ireturn, 1) := by decide +kernel
theorem dL_law_1752 : decode cL_law 1752 = .ok (.goto 68, 3) := by decide +kernel
theorem dL_law_1755 : decode cL_law 1755 = .ok (.aload_n 1, 1) := by decide +kernel
theorem dL_law_1756 : decode cL_law 1756 = .ok (.aload 4, 2) := by decide +kernel
theorem dL_law_1758 : decode cL_law 1758 = .ok (.invokestatic 198, 3) := by decide +kernel
theorem dL_law_1761 : decode cL_law 1761 = .ok (.istore 6, 2) := by decide +kernel
theorem dL_law_1763 : decode cL_law 1763 = .ok (.aload_n 2, 1) := by decide +kernel
theorem dL_law_1764 : decode cL_law 1764 = .ok (.invokevirtual 200, 3) := by decide +kernel
theorem dL_law_1767 : decode cL_law 1767 = .ok (.dstore 7, 2) := by decide +kernel
theorem dL_law_1769 : decode cL_law 1769 = .ok (.aload_n 2, 1) := by decide +kernel
theorem dL_law_1770 : decode cL_law 1770 = .ok (.invokevirtual 116, 3) := by decide +kernel
theorem dL_law_1773 : decode cL_law 1773 = .ok (.iload 6, 2) := by decide +kernel
theorem dL_law_1775 : decode cL_law 1775 = .ok (.if_icmp .eq 5, 3) := by decide +kernel
theorem dL_law_1778 : decode cL_law 1778 = .ok (.iconst 0, 1) := by decide +kernel
theorem dL_law_1779 : decode cL_law 1779 = .ok (.ireturn, 1) := by decide +kernel
theorem dL_law_1780 : decode cL_law 1780 = .ok (.iload 6, 2) := by decide +kernel
theorem dL_law_1782 : decode cL_law 1782 = .ok (.ifCond .ne 35, 3) := by decide +kernel
theorem dL_law_1785 : decode cL_law 1785 = .ok (.aload 4, 2) := by decide +kernel
theorem dL_law_1787 : decode cL_law 1787 = .ok (.iconst 0, 1) := by decide +kernel
theorem dL_law_1788 : decode cL_law 1788 = .ok (.daload, 1) := by decide +kernel
theorem dL_law_1789 : decode cL_law 1789 = .ok (.dload 7, 2) := by decide +kernel
theorem dL_law_1791 : decode cL_law 1791 = .ok (.dcmp .l, 1) := by decide +kernel
theorem dL_law_1792 : decode cL_law 1792 = .ok (.ifCond .eq 25, 3) := by decide +kernel
theorem dL_law_1795 : decode cL_law 1795 = .ok (.aload 4, 2) := by decide +kernel
theorem dL_law_1797 : decode cL_law 1797 = .ok (.iconst 0, 1) := by decide +kernel
theorem dL_law_1798 : decode cL_law 1798 = .ok (.daload, 1) := by decide +kernel
theorem dL_law_1799 : decode cL_law 1799 = .ok (.aload 4, 2) := by decide +kernel
theorem dL_law_1801 : decode cL_law 1801 = .ok (.iconst 0, 1) := by decide +kernel
theorem dL_law_1802 : decode cL_law 1802 = .ok (.daload, 1) := by decide +kernel
theorem dL_law_1803 : decode cL_law 1803 = .ok (.dcmp .l, 1) := by decide +kernel
theorem dL_law_1804 : decode cL_law 1804 = .ok (.ifCond .eq 11, 3) := by decide +kernel
theorem dL_law_1807 : decode cL_law 1807 = .ok (.dload 7, 2) := by decide +kernel
theorem dL_law_1809 : decode cL_law 1809 = .ok (.dload 7, 2) := by decide +kernel
theorem dL_law_1811 : decode cL_law 1811 = .ok (.dcmp .l, 1) := by decide +kernel
theorem dL_law_1812 : decode cL_law 1812 = .ok (.ifCond .ne 5, 3) := by decide +kernel
theorem dL_law_1815 : decode cL_law 1815 = .ok (.iconst 0, 1) := by decide +kernel
theorem dL_law_1816 : decode cL_law 1816 = .ok (.ireturn, 1) := by decide +kernel
theorem dL_law_1817 : decode cL_law 1817 = .ok (.goto 3, 3) := by decide +kernel
theorem dL_law_1820 : decode cL_law 1820 = .ok (.iinc 5 5, 3) := by decide +kernel
theorem dL_law_1823 : decode cL_law 1823 = .ok (.goto (-1795), 3) := by decide +kernel
theorem dL_law_1826 : decode cL_law 1826 = .ok (.iconst 1, 1) := by decide +kernel
theorem dL_law_1827 : decode cL_law 1827 = .ok (.ireturn, 1) := by decide +kernel
end
section
/-! THE PURE LAYER: the heap as a function from addresses to cells; a walk PW over it, a contract PMet of it.
    Every method's words are the same list (the good words of the tables); room is counted by levels of calls. -/
abbrev hE : Type := (FieldType × vp_A) ⊕ (Nat × List Value)
abbrev hp : Type := Nat → Option hE
/-- the classes' numbers and slots, the array classes, the address of the lists' shared empty array -/
abbrev hG : Type := va_G × (FieldType → ClassId) × Nat
def hc (G : hG) (e : hE) : va_E := match e with
  | .inl q => .inl (G.2.1 q.1, q.2)
  | .inr o => .inr o
abbrev aI (n : Nat) (f : Nat → Int32) : hE := .inl (.int, n, .inl f)
abbrev aZ (n : Nat) (f : Nat → Int32) : hE := .inl (.boolean, n, .inl f)
abbrev aL (n : Nat) (f : Nat → Int64) : hE := .inl (.long, n, .inr (.inl f))
abbrev aD (n : Nat) (f : Nat → UInt64) : hE := .inl (.double, n, .inr (.inr (.inr (.inl f))))
abbrev aR (t : FieldType) (n : Nat) (f : Nat → Option Nat) : hE := .inl (t, n, .inr (.inr (.inr (.inr f))))
abbrev oB (ci : Nat) (fs : List Value) : hE := .inr (ci, fs)
abbrev tObj : FieldType := .object "java/lang/Object"
abbrev tRel : FieldType := .object "PackageForge$Release"
def arrTys : List FieldType := [.int, .boolean, .long, .double, tRel, tObj, .array .int, .array .boolean]
def hE0 : hE := aR tObj 0 (fun _ => none)
def hf (G : hG) (h : hp) (a : Nat) : va_E := match h a with
  | some e => hc G e
  | none => .inr (0, [])
def hTys (G : hG) : List (ClassId × FieldType) := arrTys.map (fun t => (G.2.1 t, t))
def hK (G : hG) (U : State) : Prop := va_K G.1 vwCl (hTys G) U
def gws : List Cond := lw_tbl.filter goodWord
theorem gws_of {w : Cond} (i : Nat) (h : lw_tbl[i]? = some w) (hg : goodWord w = true) : w ∈ gws := List.mem_filter.mpr ⟨List.mem_of_getElem? h, hg⟩
theorem gws_good : GoodIn gws gws := fun w h => ⟨h, good_of_word (List.mem_filter.mp h).2⟩
/-- words of the tables that a shift of links may touch, but keeps -/
def nestW : Cond → Bool
  | .fieldLinkNest .. => true
  | .methodLinkNest .. => true
  | .castable .. => true
  | .declares .. => true
  | _ => false
def nws : List Cond := lw_tbl.filter nestW
theorem nws_of {w : Cond} (i : Nat) (h : lw_tbl[i]? = some w) (hg : nestW w = true) : w ∈ nws := List.mem_filter.mpr ⟨List.mem_of_getElem? h, hg⟩
theorem nestW_warm {w : Cond} (hw : nestW w = true) {s U : State} (hW : s.WarmedH U.vm) (h : va_Nw w s) : va_Nw w U := by
  cases w with
  | fieldLinkNest a b c d e f => exact va_Nw.warmF hW h
  | methodLinkNest a b c d => exact va_Nw.warmM hW h
  | castable a b => exact va_Nw.warmC hW h
  | declares a => exact va_Nw.warmD hW h
  | _ => cases hw
/-- pairs of classes of which one is not the other (a handler's row that a throw passes) -/
def ncs : List (String × String) := [("java/lang/IllegalArgumentException", "java/lang/IndexOutOfBoundsException"), ("java/lang/IllegalStateException", "java/lang/IllegalArgumentException"), ("java/lang/IllegalStateException", "java/lang/IndexOutOfBoundsException"), ("java/util/NoSuchElementException", "java/lang/IndexOutOfBoundsException"), ("java/lang/UnsupportedOperationException", "java/lang/IndexOutOfBoundsException"), ("java/lang/IllegalStateException", "java/lang/UnsupportedOperationException"), ("java/lang/IllegalStateException", "java/util/NoSuchElementException"), ("java/lang/UnsupportedOperationException", "java/util/NoSuchElementException"), ("java/lang/UnsupportedOperationException", "java/lang/IllegalStateException")]
def hEnv (U : State) : Prop := (∀ w ∈ nws, va_Nw w U) ∧ (∀ (own : String) (k : Nat) (tx : String), Cond.stringRef own k tx ∈ lw_tbl → ∃ a, vk_R own k tx a U) ∧ (va_AO "PackageForge$Release" U ∧ va_AO "java/lang/Object" U ∧ va_AOA .int U ∧ va_AOA .boolean U) ∧ ∀ q ∈ ncs, va_Nc q.1 q.2 U
theorem va_AOA.moved {t : FieldType} {u U : State} (hvm : u.vm.Alike U.vm) (h : va_AOA t u) : va_AOA t U := by
  have hb : U.vm.bare = u.vm.bare := by first | exact hvm.bare_eq | exact hvm.bare_eq.symm
  have key : (Cond.arrayOver (.array t)).value #[] U none U [] = (Cond.arrayOver (.array t)).value #[] u none u [] := by
    simp only [Cond.value, hvm.findClass]
    refine congrArg (Option.bind _) (funext fun comp => ?_)
    have e := (va_idx_bare U.vm comp).symm.trans ((congrArg (fun v : Vm => v.classes.findIdx? fun (x : Class) => match x.kind with | .array component _ => component == comp | _ => false) hb).trans (va_idx_bare u.vm comp))
    refine congr (congrArg Option.bind e) (funext fun c => ?_)
    cases hu : u.vm.classes[c]? with
    | none =>
      cases hU : U.vm.classes[c]? with
      | none => rfl
      | some k' =>
        obtain ⟨k, hk, -⟩ := hvm.symm.2.2 _ _ hU
        rw [hu] at hk
        cases hk
    | some k =>
      obtain ⟨k', hk', he⟩ := hvm.2.2 _ _ hu
      rw [hk', he]
      rfl
  unfold va_AOA Cond.before Cond.holds at h ⊢
  rw [key]
  exact h
theorem hEnv.warm {s U : State} (hW : s.WarmedH U.vm) (h : hEnv s) : hEnv U := by
  obtain ⟨h1, h2, ⟨h3, h4, h5, h6⟩, h7⟩ := h
  exact ⟨fun w hw => nestW_warm (List.mem_filter.mp hw).2 hW (h1 w hw), fun o k t ht => by obtain ⟨a, ha⟩ := h2 o k t ht; exact ⟨a, vk_R.warm hW ha⟩, ⟨h3.moved hW.alike, h4.moved hW.alike, h5.moved hW.alike, h6.moved hW.alike⟩, fun q hq => (h7 q hq).moved hW.alike⟩
/-- the statics that are read: where throwables begin, the lists' empty array -/
def hSt (G : hG) (A : Nat → Prop) (U : State) (H : Heap) : Prop := vx_Zq Bundle.tN "UNASSIGNED_STACK" Bundle.steD A U H ∧ vx_Zq Bundle.tN "SUPPRESSED_SENTINEL" Bundle.listD A U H ∧ va_Z "java/util/ArrayList" "DEFAULTCAPACITY_EMPTY_ELEMENTDATA" "[Ljava/lang/Object;" (.ref G.2.2) A U H ∧ ¬ A G.2.2
theorem hSt.moved {G : hG} {A : Nat → Prop} {u U : State} {H : Heap} (hvm : u.vm.Alike U.vm) (h : hSt G A u H) : hSt G A U H := ⟨h.1.moved hvm, h.2.1.moved hvm, h.2.2.1.moved hvm, h.2.2.2⟩
theorem hSt.kept {G : hG} {A : Nat → Prop} {U : State} {H H1 : Heap} (h : hSt G A U H) (hq : ∀ a : Nat, a < H.size → ¬ A a → H1[a]? = H[a]?) : hSt G A U H1 := ⟨h.1.kept hq, h.2.1.kept hq, h.2.2.1.kept hq, h.2.2.2⟩
theorem hSt.narrow {G : hG} {A B : Nat → Prop} {U : State} {H : Heap} (h : hSt G A U H) (hAB : ∀ q, B q → A q) : hSt G B U H := ⟨h.1.narrow hAB, h.2.1.narrow hAB, h.2.2.1.narrow hAB, fun q => h.2.2.2 (hAB _ q)⟩
/-- the heap H holds the cells of h; its own ones lie in A -/
def RQ (G : hG) (A : Nat → Prop) (h : hp) (H : Heap) : Prop := (∃ L : List Nat, (∀ a, a ∈ L ↔ (h a ≠ none ∧ a ≠ G.2.2)) ∧ va_P G.1 vwCl (va_pl L (hf G h)) H ∧ va_D A (va_pl L (hf G h))) ∧ h G.2.2 = some hE0 ∧ va_at G.1 vwCl (G.2.2, hc G hE0) H
theorem hf_up (G : hG) (h : hp) (a : Nat) (e' : hE) : ∀ b, va_up (hf G h) a (hc G e') b = hf G (va_up h a (some e')) b := by
  intro b
  by_cases hb : b = a
  · subst hb
    simp [va_up, hf]
  · simp [va_up, hb, hf]
theorem hf_at {G : hG} {h : hp} {a : Nat} {e : hE} (ha : h a = some e) : hf G h a = hc G e := by simp [hf, ha]
theorem RQ.idx {G : hG} {A : Nat → Prop} {h : hp} {H : Heap} {L : List Nat} (hL : ∀ a, a ∈ L ↔ (h a ≠ none ∧ a ≠ G.2.2)) {a : Nat} {e : hE} (ha : h a = some e) (hne : a ≠ G.2.2) : a ∈ L ∧ ∃ k : Nat, (va_pl L (hf G h))[k]? = some (a, hc G e) := by
  have haL : a ∈ L := (hL a).mpr ⟨(by rw [ha]; exact fun q => by cases q), hne⟩
  obtain ⟨k, hk⟩ := va_pl_get (X := []) (f := hf G h) haL
  exact ⟨haL, k, by rw [← hf_at ha]; exact hk⟩
theorem RQ.at {G : hG} {A : Nat → Prop} {h : hp} {H : Heap} (hR : RQ G A h H) {a : Nat} {e : hE} (ha : h a = some e) : va_at G.1 vwCl (a, hc G e) H := by
  obtain ⟨⟨L, hL, hP, hD⟩, h0, hz⟩ := hR
  by_cases hne : a = G.2.2
  · subst hne
    cases h0.symm.trans ha
    exact hz
  · obtain ⟨-, k, hk⟩ := RQ.idx (A := A) (H := H) hL ha hne
    exact hP k _ hk
theorem RQ.one {G : hG} {A : Nat → Prop} {h : hp} {H : Heap} (hR : RQ G A h H) {a : Nat} {e : hE} (ha : h a = some e) : va_P G.1 vwCl [(a, hc G e)] H := by
  intro k q hk
  match k, hk with
  | 0, hk => cases hk; exact hR.at ha
  | k + 1, hk => simp at hk
/-- one cell is written -/
theorem RQ.wr {G : hG} {A : Nat → Prop} {h : hp} {H : Heap} (hR : RQ G A h H) {a : Nat} {e : hE} (ha : h a = some e) (hne : a ≠ G.2.2) : ∃ (ws : va_W) (k : Nat), va_P G.1 vwCl ws H ∧ va_D A ws ∧ ws[k]? = some (a, hc G e) ∧
    ∀ (e' : hE) (H1 : Heap), va_P G.1 vwCl (ws.set k (a, hc G e')) H1 → va_D A (ws.set k (a, hc G e')) → va_at G.1 vwCl (G.2.2, hc G hE0) H1 → RQ G A (va_up h a (some e')) H1 := by
  obtain ⟨⟨L, hL, hP, hD⟩, h0, hz⟩ := hR
  obtain ⟨haL, k, hk⟩ := RQ.idx (A := A) (H := H) hL ha hne
  refine ⟨va_pl L (hf G h), k, hP, hD, hk, fun e' H1 p1 d1 z1 => ?_⟩
  have hk2 : ([] ++ va_pl L (hf G h))[k]? = some (a, hf G h a) := by rw [hf_at ha]; exact hk
  have hset : (va_pl L (hf G h)).set k (a, hc G e') = va_pl L (hf G (va_up h a (some e'))) := (va_pl_set (X := []) (A := A) (e := hc G e') hD haL hk2).trans (va_pl_congr (hf_up G h a e'))
  rw [hset] at p1 d1
  refine ⟨⟨L, fun b => ?_, p1, d1⟩, ?_, z1⟩
  · by_cases hb : b = a
    · subst hb
      rw [va_up_self]
      exact ⟨fun _ => ⟨(fun q => by cases q), hne⟩, fun _ => haL⟩
    · rw [va_up_ne _ _ hb]
      exact hL b
  · rw [va_up_ne _ _ (Ne.symm hne)]
    exact h0
/-- a new cell -/
theorem RQ.new {G : hG} {A : Nat → Prop} {h : hp} {H : Heap} (hR : RQ G A h H) (hnd : ¬ A G.2.2) : ∃ ws : va_W, va_P G.1 vwCl ws H ∧ va_D A ws ∧
    ∀ (q : Nat) (e : hE) (H1 : Heap), va_P G.1 vwCl (ws ++ [(q, hc G e)]) H1 → va_D A (ws ++ [(q, hc G e)]) → va_at G.1 vwCl (G.2.2, hc G hE0) H1 → h q = none ∧ q ≠ G.2.2 ∧ RQ G A (va_up h q (some e)) H1 := by
  obtain ⟨⟨L, hL, hP, hD⟩, h0, hz⟩ := hR
  refine ⟨va_pl L (hf G h), hP, hD, fun q e H1 p1 d1 z1 => ?_⟩
  have hq : q ∉ L := va_pl_fresh2 (X := []) (A := A) (e := hc G e) d1
  have hAq : A q := d1.2 (va_pl L (hf G h)).length (q, hc G e) (by rw [List.getElem?_append_right (Nat.le_refl _), Nat.sub_self]; rfl)
  have hne : q ≠ G.2.2 := fun x => hnd (x ▸ hAq)
  have hn : h q = none := by
    cases hh : h q with
    | none => rfl
    | some x => exact absurd ((hL q).mpr ⟨(by rw [hh]; exact fun z => by cases z), hne⟩) hq
  rw [va_pl_push hq, va_pl_congr (hf_up G h q e)] at p1 d1
  refine ⟨hn, hne, ⟨L ++ [q], fun b => ?_, p1, d1⟩, ?_, z1⟩
  · by_cases hb : b = q
    · subst hb
      rw [va_up_self]
      exact ⟨fun _ => ⟨(fun x => by cases x), hne⟩, fun _ => List.mem_append_right _ List.mem_cons_self⟩
    · rw [va_up_ne _ _ hb]
      refine ⟨fun hm => ?_, fun hm => List.mem_append_left _ ((hL b).mpr hm)⟩
      rcases List.mem_append.mp hm with hm | hm
      · exact (hL b).mp hm
      · exact absurd (List.mem_singleton.mp hm) hb
  · rw [va_up_ne _ _ (Ne.symm hne)]
    exact h0
/-- a callee's cells: the world's, and what comes from sz on -/
def dm (G : hG) (h : hp) (sz : Nat) : Nat → Prop := fun q => (h q ≠ none ∧ q ≠ G.2.2) ∨ sz ≤ q
theorem RQ.toDm {G : hG} {A : Nat → Prop} {h : hp} {H : Heap} (hR : RQ G A h H) (sz : Nat) : RQ G (dm G h sz) h H := by
  obtain ⟨⟨L, hL, hP, hD⟩, h0, hz⟩ := hR
  refine ⟨⟨L, hL, hP, hD.1, fun k q hk => ?_⟩, h0, hz⟩
  obtain ⟨a, ha, rfl⟩ := List.mem_map.mp (List.mem_of_getElem? hk)
  exact Or.inl ((hL a).mp ha)
theorem RQ.dmSub {G : hG} {A : Nat → Prop} {h : hp} {H : Heap} (hR : RQ G A h H) {sz : Nat} (hA : ∀ q, sz ≤ q → A q) : ∀ q, dm G h sz q → A q := by
  intro q hq
  obtain ⟨⟨L, hL, hP, hD⟩, h0, hz⟩ := hR
  rcases hq with hq | hq
  · have hm := (hL q).mpr hq
    obtain ⟨k, hk⟩ := va_pl_get (X := []) (f := hf G h) hm
    exact hD.2 k _ hk
  · exact hA q hq
theorem RQ.wide {G : hG} {A B : Nat → Prop} {h : hp} {H : Heap} (hR : RQ G A h H) (hAB : ∀ q, A q → B q) : RQ G B h H := by
  obtain ⟨⟨L, hL, hP, hD⟩, h0, hz⟩ := hR
  exact ⟨⟨L, hL, hP, hD.1, fun k q hk => hAB _ (hD.2 k q hk)⟩, h0, hz⟩
end
section
/-! a walk over the pure heap -/
abbrev hMI : Type := MethodName × ByteArray × Nat × Option FieldType × List (Nat × Nat × Nat × Nat)
abbrev hEnd : Type := List Frame → Array Value → State → (Nat → Prop) → Nat → Nat → State → Prop
abbrev hAmb : Type := State → (Nat → Prop) → Prop
def noA : hAmb := fun _ _ => True
def rmOf (d mc ms : Nat) : Room := { frames := d + 6, cells := mc, slots := ms, locals := 40 * d + 100 }
def wsOf (M : hMI) : List Cond := (if M.2.2.2.2 = [] then Cond.code M.1 M.2.1 M.2.2.1 M.2.2.2.1 else Cond.codeWith M.1 M.2.1 M.2.2.1 M.2.2.2.1 M.2.2.2.2) :: gws
/-- what holds all along a method's walk -/
def CX (G : hG) (M : hMI) (d : Nat) (Ps : hAmb) (p : Program) (l : Launch) (R : Room) (s : State) (m : MethodId) (args : Array Value) (meth : Method) (c : Code) (A : Nat → Prop) : Prop :=
  p.tables.exec = Jvm.exec ∧ c.code = M.2.1 ∧ c.maxLocals = M.2.2.1 ∧ s.vm.findClass M.1.cls = some m.cls ∧ (∀ w ∈ gws, w.before args s = true) ∧ meth.sig.returnType = M.2.2.2.1 ∧ c.exceptionTable.toList = tableOf M.2.2.2.2 ∧ meth.name = M.1.name ∧ meth.locks = false ∧ l.stackTraces = false ∧ (d + 6 ≤ R.frames ∧ 40 * d + 100 ≤ R.locals) ∧ hK G s ∧ hEnv s ∧ hSt G A s s.heap ∧ (∀ q : Nat, s.heap.size ≤ q → A q) ∧ Ps s A
def PW (G : hG) (M : hMI) (d : Nat) (Ps : hAmb) (E : hEnd) (kc ks pc : Nat) (L : List (Nat × Value)) (S : List Value) (h : hp) : Prop :=
  ∀ (p : Program) (l : Launch) (e : Env) (R : Room) (s : State) (m : MethodId) (args : Array Value) (below : List Frame) (meth : Method) (c : Code) (A : Nat → Prop) (H : Heap) (locs : List Loc) (cells slots : Nat) (ls : Array Slot) (MC MS : Nat),
    CX G M d Ps p l R s m args meth c A → RQ G A h H → va_S A s.heap H locs → lv_has ls M.2.2.1 L → (cells + kc ≤ MC ∧ slots + ks ≤ MS ∧ MC ≤ R.cells ∧ MS ≤ R.slots) →
    W p l e R s m args below meth c H locs cells slots (E below args s A MC MS) (F0 m pc ls S)
/-- with something thrown over the frame -/
def PX (G : hG) (M : hMI) (d : Nat) (Ps : hAmb) (E : hEnd) (kc ks pc : Nat) (L : List (Nat × Value)) (X : String) (h : hp) : Prop :=
  ∀ (p : Program) (l : Launch) (e : Env) (R : Room) (s : State) (m : MethodId) (args : Array Value) (below : List Frame) (meth : Method) (c : Code) (A : Nat → Prop) (H : Heap) (locs : List Loc) (cells slots : Nat) (ls : Array Slot) (MC MS : Nat) (rest : List Value) (ce : Cell) (q : Addr),
    CX G M d Ps p l R s m args meth c A → RQ G A h H → va_S A s.heap H locs → lv_has ls M.2.2.1 L → (cells + kc ≤ MC ∧ slots + ks ≤ MS ∧ MC ≤ R.cells ∧ MS ≤ R.slots) →
    H[q]? = some ce → ce.vm = .none → s.vm.findClass X = some ce.cls →
    vx_W p l e R s m args below meth c H locs cells slots (E below args s A MC MS) (F0 m pc ls rest) q
/-- how a method ends: it returned r in the heap h', or threw an X in it -/
def hQc (G : hG) (Q : Option Value → hp → Prop) (A : Nat → Prop) : Array Value → State → Outcome → State → Prop := fun _ st oc t => (∃ (r : Option Value) (h' : hp), oc = .returned r ∧ Q r h' ∧ RQ G A h' t.heap) ∧ va_F A st t
def hXc (G : hG) (X : String → hp → Prop) (A : Nat → Prop) : String → State → State → Prop := fun C st t => (∃ h' : hp, X C h' ∧ RQ G A h' t.heap) ∧ va_F A st t
def E0 (G : hG) (Q : Option Value → hp → Prop) (X : String → hp → Prop) : hEnd := fun below args s A MC MS => vx_MQ below (hQc G Q A) (hXc G X A) args s MC MS A
def hPre (G : hG) (h : hp) (sz : Nat) (U : State) : Prop := U.heap.size = sz ∧ RQ G (dm G h sz) h U.heap ∧ hSt G (dm G h sz) U U.heap ∧ hK G U ∧ hEnv U
/-- THE CONTRACT of a method at the arguments As and the heap h: at every level from k on -/
def PMet (G : hG) (M : hMI) (k mc ms : Nat) (As : List Value) (h : hp) (Q : Option Value → hp → Prop) (X : String → hp → Prop) : Prop :=
  ∀ (l : Launch) (d sz : Nat), l.stackTraces = false → k ≤ d → vx_Met l M.1 (wsOf M) (rmOf d mc ms) (va_Pc As (hPre G h sz)) (hQc G Q (dm G h sz)) (hXc G X (dm G h sz)) mc ms (dm G h sz)
def noX : String → hp → Prop := fun _ _ => False
def det (r : Option Value) (h1 : hp) : Option Value → hp → Prop := fun r' h' => r' = r ∧ h' = h1
theorem hPre.vm {G : hG} {h : hp} {sz : Nat} {u U : State} (hh : U.heap = u.heap) (hW : u.WarmedH U.vm) (H : hPre G h sz u) : hPre G h sz U := by
  obtain ⟨h1, h2, h3, h4, h5⟩ := H
  exact ⟨by rw [hh]; exact h1, by rw [hh]; exact h2, by rw [hh]; exact h3.moved hW.alike, va_K.moved hW.alike h4, h5.warm hW⟩
theorem PMet.mono {G : hG} {M : hMI} {k mc ms : Nat} {As : List Value} {h : hp} {Q Q' : Option Value → hp → Prop} {X X' : String → hp → Prop} (H : PMet G M k mc ms As h Q X) (hQ : ∀ r h', Q r h' → Q' r h') (hX : ∀ C h', X C h' → X' C h') : PMet G M k mc ms As h Q' X' := by
  intro l d sz hl hd
  have h1 := H l d sz hl hd
  refine MetFree.mono h1 (fun _ _ z => z) (fun _ _ _ _ _ z => z) (fun a s o s' _ hq => ?_)
  rcases hq with ⟨⟨⟨r, h', e1, e2, e3⟩, e4⟩, hL⟩ | ⟨q, e1, C, ce, L, ⟨⟨h', e2, e3⟩, e4⟩, rest⟩
  · exact Or.inl ⟨⟨⟨r, h', e1, hQ _ _ e2, e3⟩, e4⟩, hL⟩
  · exact Or.inr ⟨q, e1, C, ce, L, ⟨⟨h', hX _ _ e2, e3⟩, e4⟩, rest⟩
/-- a contract out of a walk -/
theorem PMet.of {G : hG} {M : hMI} {k mc ms : Nat} {As : List Value} {h : hp} {Q : Option Value → hp → Prop} {X : String → hp → Prop} (hpl : plainName M.1.cls = true) (hL : (lg_sl As).length ≤ M.2.2.1)
    (H : ∀ d, k ≤ d → PW G M d noA (E0 G Q X) mc ms 0 (lv_args 0 As) [] h) : PMet G M k mc ms As h Q X := by
  intro l d sz hl hd
  have body : ∀ (p : Program) (e : Env) (s : State) (m : MethodId) (args : Array Value) (below : List Frame) (meth : Method) (c : Code) (s₁ : State), BodyLoose p l M.1 (headSpec (wsOf M) (rmOf d mc ms)) M.2.1 M.2.2.1 M.2.2.2.1 e s m args below meth c s₁ → c.maxLocals = M.2.2.1 → c.exceptionTable.toList = tableOf M.2.2.2.2 → va_Pc As (hPre G h sz) args s →
      W p l e (rmOf d mc ms) s m args below meth c s.heap [] 0 0 (vx_MQ below (hQc G Q (dm G h sz)) (hXc G X (dm G h sz)) args s mc ms (dm G h sz)) (entryFrame m args M.2.2.1) := by
    intro p e s m args below meth c s₁ B hml htab hv
    obtain ⟨rfl, hsz, hR, hS, hKk, hEe⟩ := hv
    have hts0 := atoms_spec (ws := wsOf M) B.pre
    have hts : ∀ w ∈ gws, w.before As.toArray s = true := fun w hw => hts0 w (List.mem_cons_of_mem _ hw)
    have hown : s.vm.findClass M.1.cls = some m.cls := findClass_of_methodNamed B.named
    have hnm : meth.name = M.1.name := (name_of_methodNamed B.named B.method).1
    rw [lg_entry_eq]
    exact H d hd p l e (rmOf d mc ms) s m As.toArray below meth c (dm G h sz) s.heap [] 0 0 _ mc ms
      ⟨B.exec, B.bytes, hml, hown, hts, B.returns, htab, hnm, B.notSynchronized, hl, ⟨Nat.le_refl _, Nat.le_refl _⟩, hKk, hEe, hS, fun q hq => Or.inr (by rw [← hsz]; exact hq), trivial⟩
      hR va_S.rf (lv_entry As hL) ⟨by omega, by omega, Nat.le_refl _, Nat.le_refl _⟩
  by_cases hh : M.2.2.2.2 = []
  · refine vx_ofW (cc := M.2.1) (maxL := M.2.2.1) (ret := M.2.2.2.1) (ws' := gws) hpl (by unfold wsOf; rw [if_pos hh]) ?_
    intro p e s m args below meth c s₁ B hml ht hv
    refine body p e s m args below meth c s₁ B hml ?_ hv
    rw [hh]
    cases hl : c.exceptionTable.toList with
    | nil => rfl
    | cons x xs => exact (ht x (by rw [hl]; exact List.mem_cons_self)).elim
  · refine vx_ofWH (cc := M.2.1) (maxL := M.2.2.1) (ret := M.2.2.2.1) (hh := M.2.2.2.2) (ws' := gws) hpl (by unfold wsOf; rw [if_neg hh]) ?_
    intro p e s m args below meth c s₁ B hml hv
    refine body p e s m args below meth c s₁ B hml ?_ hv
    have hts0 := atoms_spec (ws := wsOf M) B.pre
    have hw := hts0 _ (show Cond.codeWith M.1 M.2.1 M.2.2.1 M.2.2.2.1 M.2.2.2.2 ∈ wsOf M by unfold wsOf; rw [if_neg hh]; exact List.mem_cons_self)
    exact vx_table (x := M.1) B hw
end
section
/-! a row an instruction, over the pure heap (made by a program of ours) -/
section PWR
variable {G : hG} {M : hMI} {d : Nat} {Ps : hAmb} {E : hEnd} {kc ks pc pc2 tgt : Nat} {L : List (Nat × Value)} {S S2 : List Value} {h : hp}
theorem pw_lift (f : ∀ {p : Program} {l : Launch} {e : Env} {R : Room} {s : State} {m : MethodId} {args : Array Value} {below : List Frame} {meth : Method} {c : Code} {H : Heap} {locs : List Loc} {cells slots : Nat} {Q : State → Prop} {ls : Array Slot}, p.tables.exec = Jvm.exec → c.code = M.2.1 → lv_has ls M.2.2.1 L → W p l e R s m args below meth c H locs cells slots Q (F0 m pc2 ls S2) → W p l e R s m args below meth c H locs cells slots Q (F0 m pc ls S)) (k : PW G M d Ps E kc ks pc2 L S2 h) : PW G M d Ps E kc ks pc L S h := by
  intro p l e R s m args below meth c A H locs cells slots ls MC MS C hR hS hl hm
  exact f C.1 C.2.1 hl (k p l e R s m args below meth c A H locs cells slots ls MC MS C hR hS hl hm)
theorem pw_liftL {L2 : List (Nat × Value)} (f : ∀ {p : Program} {l : Launch} {e : Env} {R : Room} {s : State} {m : MethodId} {args : Array Value} {below : List Frame} {meth : Method} {c : Code} {H : Heap} {locs : List Loc} {cells slots : Nat} {Q : State → Prop} {ls : Array Slot}, p.tables.exec = Jvm.exec → c.code = M.2.1 → lv_has ls M.2.2.1 L → (∀ ls' : Array Slot, lv_has ls' M.2.2.1 L2 → W p l e R s m args below meth c H locs cells slots Q (F0 m pc2 ls' S2)) → W p l e R s m args below meth c H locs cells slots Q (F0 m pc ls S)) (k : PW G M d Ps E kc ks pc2 L2 S2 h) : PW G M d Ps E kc ks pc L S h := by
  intro p l e R s m args below meth c A H locs cells slots ls MC MS C hR hS hl hm
  exact f C.1 C.2.1 hl (fun ls' hl' => k p l e R s m args below meth c A H locs cells slots ls' MC MS C hR hS hl' hm)
theorem pw_lift2 {pc3 : Nat} {S3 : List Value} {a b : Prop} (f : ∀ {p : Program} {l : Launch} {e : Env} {R : Room} {s : State} {m : MethodId} {args : Array Value} {below : List Frame} {meth : Method} {c : Code} {H : Heap} {locs : List Loc} {cells slots : Nat} {Q : State → Prop} {ls : Array Slot}, p.tables.exec = Jvm.exec → c.code = M.2.1 → (a → W p l e R s m args below meth c H locs cells slots Q (F0 m pc2 ls S2)) → (b → W p l e R s m args below meth c H locs cells slots Q (F0 m pc3 ls S3)) → W p l e R s m args below meth c H locs cells slots Q (F0 m pc ls S)) (k1 : a → PW G M d Ps E kc ks pc2 L S2 h) (k2 : b → PW G M d Ps E kc ks pc3 L S3 h) : PW G M d Ps E kc ks pc L S h := by
  intro p l e R s m args below meth c A H locs cells slots ls MC MS C hR hS hl hm
  exact f C.1 C.2.1 (fun q => k1 q p l e R s m args below meth c A H locs cells slots ls MC MS C hR hS hl hm) (fun q => k2 q p l e R s m args below meth c A H locs cells slots ls MC MS C hR hS hl hm)
theorem pw_iadd {x y : Int32} (hdg : decode M.2.1 pc = .ok (.iadd, 1)) (hp : pc + 1 = pc2)  (k : PW G M d Ps E kc ks pc2 L (.int (x + y) :: S) h) : PW G M d Ps E kc ks pc L (.int y :: .int x :: S) h := by
  subst hp
  exact pw_lift (fun hx hb hl kk => lv_iadd hx hb hdg kk) k
theorem pw_isub {x y : Int32} (hdg : decode M.2.1 pc = .ok (.isub, 1)) (hp : pc + 1 = pc2)  (k : PW G M d Ps E kc ks pc2 L (.int (x - y) :: S) h) : PW G M d Ps E kc ks pc L (.int y :: .int x :: S) h := by
  subst hp
  exact pw_lift (fun hx hb hl kk => lv_isub hx hb hdg kk) k
theorem pw_imul {x y : Int32} (hdg : decode M.2.1 pc = .ok (.imul, 1)) (hp : pc + 1 = pc2)  (k : PW G M d Ps E kc ks pc2 L (.int (x * y) :: S) h) : PW G M d Ps E kc ks pc L (.int y :: .int x :: S) h := by
  subst hp
  exact pw_lift (fun hx hb hl kk => lv_imul hx hb hdg kk) k
theorem pw_iand {x y : Int32} (hdg : decode M.2.1 pc = .ok (.iand, 1)) (hp : pc + 1 = pc2)  (k : PW G M d Ps E kc ks pc2 L (.int (x &&& y) :: S) h) : PW G M d Ps E kc ks pc L (.int y :: .int x :: S) h := by
  subst hp
  exact pw_lift (fun hx hb hl kk => lv_iand hx hb hdg kk) k
theorem pw_ior {x y : Int32} (hdg : decode M.2.1 pc = .ok (.ior, 1)) (hp : pc + 1 = pc2)  (k : PW G M d Ps E kc ks pc2 L (.int (x ||| y) :: S) h) : PW G M d Ps E kc ks pc L (.int y :: .int x :: S) h := by
  subst hp
  exact pw_lift (fun hx hb hl kk => lv_ior hx hb hdg kk) k
theorem pw_idiv {x y : Int32} (hdg : decode M.2.1 pc = .ok (.idiv, 1)) (hp : pc + 1 = pc2) (hne : ¬ y = 0) (k : PW G M d Ps E kc ks pc2 L (.int (x / y) :: S) h) : PW G M d Ps E kc ks pc L (.int y :: .int x :: S) h := by
  subst hp
  exact pw_lift (fun hx hb hl kk => lv_idiv hx hb hdg hne kk) k
theorem pw_ishl {x y : Int32} (hdg : decode M.2.1 pc = .ok (.ishl, 1)) (hp : pc + 1 = pc2)  (k : PW G M d Ps E kc ks pc2 L (.int (x <<< (y &&& 31)) :: S) h) : PW G M d Ps E kc ks pc L (.int y :: .int x :: S) h := by
  subst hp
  exact pw_lift (fun hx hb hl kk => lv_ishl hx hb hdg kk) k
theorem pw_ishr {x y : Int32} (hdg : decode M.2.1 pc = .ok (.ishr, 1)) (hp : pc + 1 = pc2)  (k : PW G M d Ps E kc ks pc2 L (.int (x >>> (y &&& 31)) :: S) h) : PW G M d Ps E kc ks pc L (.int y :: .int x :: S) h := by
  subst hp
  exact pw_lift (fun hx hb hl kk => lv_ishr hx hb hdg kk) k
theorem pw_iushr {x y v : Int32} (hdg : decode M.2.1 pc = .ok (.iushr, 1)) (hp : pc + 1 = pc2) (hv : (x.toUInt32 >>> (y.toUInt32 &&& Int32.toUInt32 31)).toInt32 = v) (k : PW G M d Ps E kc ks pc2 L (.int v :: S) h) : PW G M d Ps E kc ks pc L (.int y :: .int x :: S) h := by
  subst hp
  exact pw_lift (fun hx hb hl kk => lv_iushr hx hb hdg hv kk) k
theorem pw_iconst {n : Int} {v : Int32} (hdg : decode M.2.1 pc = .ok (.iconst n, 1)) (hp : pc + 1 = pc2) (hv : Int32.ofInt n = v) (k : PW G M d Ps E kc ks pc2 L (.int v :: S) h) : PW G M d Ps E kc ks pc L S h := by
  subst hp
  exact pw_lift (fun hx hb hl kk => lv_iconst hx hb hdg hv kk) k
theorem pw_bipush {n : Int} {v : Int32} (hdg : decode M.2.1 pc = .ok (.bipush n, 2)) (hp : pc + 2 = pc2) (hv : (Int8.ofInt n).toInt32 = v) (k : PW G M d Ps E kc ks pc2 L (.int v :: S) h) : PW G M d Ps E kc ks pc L S h := by
  subst hp
  exact pw_lift (fun hx hb hl kk => lv_bipush hx hb hdg hv kk) k
theorem pw_sipush {n : Int} {v : Int32} (hdg : decode M.2.1 pc = .ok (.sipush n, 3)) (hp : pc + 3 = pc2) (hv : (Int16.ofInt n).toInt32 = v) (k : PW G M d Ps E kc ks pc2 L (.int v :: S) h) : PW G M d Ps E kc ks pc L S h := by
  subst hp
  exact pw_lift (fun hx hb hl kk => lv_sipush hx hb hdg hv kk) k
theorem pw_lconst {n : Fin 2} {v : Int64} (hdg : decode M.2.1 pc = .ok (.lconst n, 1)) (hp : pc + 1 = pc2) (hv : Int64.ofNat (n : Nat) = v) (k : PW G M d Ps E kc ks pc2 L (.long v :: S) h) : PW G M d Ps E kc ks pc L S h := by
  subst hp
  exact pw_lift (fun hx hb hl kk => lv_lconst hx hb hdg hv kk) k
theorem pw_fconst0  (hdg : decode M.2.1 pc = .ok (.fconst 0, 1)) (hp : pc + 1 = pc2)  (k : PW G M d Ps E kc ks pc2 L (.float FP.fconst0 :: S) h) : PW G M d Ps E kc ks pc L S h := by
  subst hp
  exact pw_lift (fun hx hb hl kk => lv_fconst0 hx hb hdg kk) k
theorem pw_dconst0  (hdg : decode M.2.1 pc = .ok (.dconst 0, 1)) (hp : pc + 1 = pc2)  (k : PW G M d Ps E kc ks pc2 L (.double FP.dconst0 :: S) h) : PW G M d Ps E kc ks pc L S h := by
  subst hp
  exact pw_lift (fun hx hb hl kk => lv_dconst0 hx hb hdg kk) k
theorem pw_null  (hdg : decode M.2.1 pc = .ok (.aconst_null, 1)) (hp : pc + 1 = pc2)  (k : PW G M d Ps E kc ks pc2 L (.null :: S) h) : PW G M d Ps E kc ks pc L S h := by
  subst hp
  exact pw_lift (fun hx hb hl kk => lv_null hx hb hdg kk) k
theorem pw_dup {v : Value} (hdg : decode M.2.1 pc = .ok (.dup, 1)) (hp : pc + 1 = pc2) (hv : v.category = 1) (k : PW G M d Ps E kc ks pc2 L (v :: v :: S) h) : PW G M d Ps E kc ks pc L (v :: S) h := by
  subst hp
  exact pw_lift (fun hx hb hl kk => lv_dup hx hb hdg hv kk) k
theorem pw_pop {v : Value} (hdg : decode M.2.1 pc = .ok (.pop, 1)) (hp : pc + 1 = pc2) (hv : v.category = 1) (k : PW G M d Ps E kc ks pc2 L S h) : PW G M d Ps E kc ks pc L (v :: S) h := by
  subst hp
  exact pw_lift (fun hx hb hl kk => lv_pop hx hb hdg hv kk) k
theorem pw_dup_x1 {v w : Value} (hdg : decode M.2.1 pc = .ok (.dup_x1, 1)) (hp : pc + 1 = pc2) (hv : v.category = 1) (hw : w.category = 1) (k : PW G M d Ps E kc ks pc2 L (v :: w :: v :: S) h) : PW G M d Ps E kc ks pc L (v :: w :: S) h := by
  subst hp
  exact pw_lift (fun hx hb hl kk => lv_dup_x1 hx hb hdg hv hw kk) k
theorem pw_dup2 {v w : Value} (hdg : decode M.2.1 pc = .ok (.dup2, 1)) (hp : pc + 1 = pc2) (hv : v.category = 1) (hw : w.category = 1) (k : PW G M d Ps E kc ks pc2 L (v :: w :: v :: w :: S) h) : PW G M d Ps E kc ks pc L (v :: w :: S) h := by
  subst hp
  exact pw_lift (fun hx hb hl kk => lv_dup2_11 hx hb hdg hv hw kk) k
theorem pw_i2l {x : Int32} (hdg : decode M.2.1 pc = .ok (.i2l, 1)) (hp : pc + 1 = pc2)  (k : PW G M d Ps E kc ks pc2 L (.long x.toInt64 :: S) h) : PW G M d Ps E kc ks pc L (.int x :: S) h := by
  subst hp
  exact pw_lift (fun hx hb hl kk => lv_i2l hx hb hdg rfl kk) k
theorem pw_i2f {x : Int32} (hdg : decode M.2.1 pc = .ok (.i2f, 1)) (hp : pc + 1 = pc2)  (k : PW G M d Ps E kc ks pc2 L (.float (FP.i2f x) :: S) h) : PW G M d Ps E kc ks pc L (.int x :: S) h := by
  subst hp
  exact pw_lift (fun hx hb hl kk => lv_i2f hx hb hdg kk) k
theorem pw_i2d {x : Int32} (hdg : decode M.2.1 pc = .ok (.i2d, 1)) (hp : pc + 1 = pc2)  (k : PW G M d Ps E kc ks pc2 L (.double (FP.i2d x) :: S) h) : PW G M d Ps E kc ks pc L (.int x :: S) h := by
  subst hp
  exact pw_lift (fun hx hb hl kk => lv_i2d hx hb hdg kk) k
theorem pw_f2d {x : UInt32} (hdg : decode M.2.1 pc = .ok (.f2d, 1)) (hp : pc + 1 = pc2) (hne : vf_n64 (FP.f2d x)) (k : PW G M d Ps E kc ks pc2 L (.double (FP.f2d x) :: S) h) : PW G M d Ps E kc ks pc L (.float x :: S) h := by
  subst hp
  exact pw_lift (fun hx hb hl kk => lv_f2d hx hb hdg hne kk) k
theorem pw_fdiv {x y : UInt32} (hdg : decode M.2.1 pc = .ok (.fdiv, 1)) (hp : pc + 1 = pc2) (hne : vf_n32 (FP.fdiv x y)) (k : PW G M d Ps E kc ks pc2 L (.float (FP.fdiv x y) :: S) h) : PW G M d Ps E kc ks pc L (.float y :: .float x :: S) h := by
  subst hp
  exact pw_lift (fun hx hb hl kk => lv_fdiv hx hb hdg hne kk) k
theorem pw_ddiv {x y : UInt64} (hdg : decode M.2.1 pc = .ok (.ddiv, 1)) (hp : pc + 1 = pc2) (hne : vf_n64 (FP.ddiv x y)) (k : PW G M d Ps E kc ks pc2 L (.double (FP.ddiv x y) :: S) h) : PW G M d Ps E kc ks pc L (.double y :: .double x :: S) h := by
  subst hp
  exact pw_lift (fun hx hb hl kk => lv_ddiv hx hb hdg hne kk) k
theorem pw_dcmp {x y : UInt64} {op : CmpOp} (hdg : decode M.2.1 pc = .ok (.dcmp op, 1)) (hp : pc + 1 = pc2)  (k : PW G M d Ps E kc ks pc2 L (.int (Op.cmpValue (FP.dcmp x y) op) :: S) h) : PW G M d Ps E kc ks pc L (.double y :: .double x :: S) h := by
  subst hp
  exact pw_lift (fun hx hb hl kk => lv_dcmp hx hb hdg kk) k
theorem pw_fcmp {x y : UInt32} {op : CmpOp} (hdg : decode M.2.1 pc = .ok (.fcmp op, 1)) (hp : pc + 1 = pc2)  (k : PW G M d Ps E kc ks pc2 L (.int (Op.cmpValue (FP.fcmp x y) op) :: S) h) : PW G M d Ps E kc ks pc L (.float y :: .float x :: S) h := by
  subst hp
  exact pw_lift (fun hx hb hl kk => lv_fcmp hx hb hdg kk) k
theorem pw_lcmp {x y : Int64} (hdg : decode M.2.1 pc = .ok (.lcmp, 1)) (hp : pc + 1 = pc2)  (k : PW G M d Ps E kc ks pc2 L (.int (lg_cmp x y) :: S) h) : PW G M d Ps E kc ks pc L (.long y :: .long x :: S) h := by
  subst hp
  exact pw_lift (fun hx hb hl kk => W.lcmp hx hb hdg kk) k
theorem pw_iload_n {k : Fin 4} {i : Nat} {x : Int32} (hdg : decode M.2.1 pc = .ok (.iload_n k, 1)) (hp : pc + 1 = pc2) (hi : (k : Nat) = i) (j : Nat) (hj : L[j]? = some (i, .int x)) (k : PW G M d Ps E kc ks pc2 L (.int x :: S) h) : PW G M d Ps E kc ks pc L S h := by
  subst hp
  exact pw_lift (fun hx hb hl kk => lv_iload_n hx hb hdg hi (lv_at hl j hj) kk) k
theorem pw_iload {i : Nat} {x : Int32} (hdg : decode M.2.1 pc = .ok (.iload i, 2)) (hp : pc + 2 = pc2) (j : Nat) (hj : L[j]? = some (i, .int x)) (k : PW G M d Ps E kc ks pc2 L (.int x :: S) h) : PW G M d Ps E kc ks pc L S h := by
  subst hp
  exact pw_lift (fun hx hb hl kk => lv_iload hx hb hdg (lv_at hl j hj) kk) k
theorem pw_fload_n {k : Fin 4} {i : Nat} {x : UInt32} (hdg : decode M.2.1 pc = .ok (.fload_n k, 1)) (hp : pc + 1 = pc2) (hi : (k : Nat) = i) (j : Nat) (hj : L[j]? = some (i, .float x)) (k : PW G M d Ps E kc ks pc2 L (.float x :: S) h) : PW G M d Ps E kc ks pc L S h := by
  subst hp
  exact pw_lift (fun hx hb hl kk => lv_fload_n hx hb hdg hi (lv_at hl j hj) kk) k
theorem pw_fload {i : Nat} {x : UInt32} (hdg : decode M.2.1 pc = .ok (.fload i, 2)) (hp : pc + 2 = pc2) (j : Nat) (hj : L[j]? = some (i, .float x)) (k : PW G M d Ps E kc ks pc2 L (.float x :: S) h) : PW G M d Ps E kc ks pc L S h := by
  subst hp
  exact pw_lift (fun hx hb hl kk => lv_fload hx hb hdg (lv_at hl j hj) kk) k
theorem pw_dload_n {k : Fin 4} {i : Nat} {x : UInt64} (hdg : decode M.2.1 pc = .ok (.dload_n k, 1)) (hp : pc + 1 = pc2) (hi : (k : Nat) = i) (j : Nat) (hj : L[j]? = some (i, .double x)) (k : PW G M d Ps E kc ks pc2 L (.double x :: S) h) : PW G M d Ps E kc ks pc L S h := by
  subst hp
  exact pw_lift (fun hx hb hl kk => lv_dload_n hx hb hdg hi (lv_at hl j hj) kk) k
theorem pw_dload {i : Nat} {x : UInt64} (hdg : decode M.2.1 pc = .ok (.dload i, 2)) (hp : pc + 2 = pc2) (j : Nat) (hj : L[j]? = some (i, .double x)) (k : PW G M d Ps E kc ks pc2 L (.double x :: S) h) : PW G M d Ps E kc ks pc L S h := by
  subst hp
  exact pw_lift (fun hx hb hl kk => lv_dload hx hb hdg (lv_at hl j hj) kk) k
def isRf (v : Value) : Prop := v = .null ∨ ∃ a : Nat, v = .ref a
theorem rf_ref (a : Nat) : isRf (.ref a) := Or.inr ⟨a, rfl⟩
theorem rf_nul : isRf .null := Or.inl rfl
theorem rf_opt (r : Option Nat) : isRf (va_rf r) := by cases r with | none => exact Or.inl rfl | some a => exact Or.inr ⟨a, rfl⟩
theorem pw_aload_n {k : Fin 4} {i : Nat} {v : Value} (hdg : decode M.2.1 pc = .ok (.aload_n k, 1)) (hp : pc + 1 = pc2) (hi : (k : Nat) = i) (j : Nat) (hj : L[j]? = some (i, v)) (hv : isRf v) (k : PW G M d Ps E kc ks pc2 L (v :: S) h) : PW G M d Ps E kc ks pc L S h := by
  subst hp
  rcases hv with rfl | ⟨a, rfl⟩
  · exact pw_lift (fun hx hb hl kk => lv_aload_nN hx hb hdg hi (lv_at hl j hj) kk) k
  · exact pw_lift (fun hx hb hl kk => lv_aload_n hx hb hdg hi (lv_at hl j hj) kk) k
theorem pw_aload {i : Nat} {v : Value} (hdg : decode M.2.1 pc = .ok (.aload i, 2)) (hp : pc + 2 = pc2) (j : Nat) (hj : L[j]? = some (i, v)) (hv : isRf v) (k : PW G M d Ps E kc ks pc2 L (v :: S) h) : PW G M d Ps E kc ks pc L S h := by
  subst hp
  rcases hv with rfl | ⟨a, rfl⟩
  · exact pw_lift (fun hx hb hl kk => lv_aloadN hx hb hdg (lv_at hl j hj) kk) k
  · exact pw_lift (fun hx hb hl kk => lv_aload hx hb hdg (lv_at hl j hj) kk) k
theorem pw_istore_n {k : Fin 4} {i : Nat} {x : Int32} {L2 : List (Nat × Value)} (hdg : decode M.2.1 pc = .ok (.istore_n k, 1)) (hp : pc + 1 = pc2) (hi : (k : Nat) = i) (hn : i < M.2.2.1) (hl2 : (i, Value.int x) :: L.filter (fun q => !(q.1 == i) && !(q.1 + 1 == i && q.2.category == 2)) = L2) (k : PW G M d Ps E kc ks pc2 L2 S h) : PW G M d Ps E kc ks pc L (.int x :: S) h := by
  subst hp
  exact pw_liftL (fun hx hb hl kk => lv_istore_n hx hb hdg hi hl hn hl2 kk) k
theorem pw_istore {i : Nat} {x : Int32} {L2 : List (Nat × Value)} (hdg : decode M.2.1 pc = .ok (.istore i, 2)) (hp : pc + 2 = pc2) (hn : i < M.2.2.1) (hl2 : (i, Value.int x) :: L.filter (fun q => !(q.1 == i) && !(q.1 + 1 == i && q.2.category == 2)) = L2) (k : PW G M d Ps E kc ks pc2 L2 S h) : PW G M d Ps E kc ks pc L (.int x :: S) h := by
  subst hp
  exact pw_liftL (fun hx hb hl kk => lv_istore hx hb hdg hl hn hl2 kk) k
theorem pw_fstore {i : Nat} {x : UInt32} {L2 : List (Nat × Value)} (hdg : decode M.2.1 pc = .ok (.fstore i, 2)) (hp : pc + 2 = pc2) (hn : i < M.2.2.1) (hl2 : (i, Value.float x) :: L.filter (fun q => !(q.1 == i) && !(q.1 + 1 == i && q.2.category == 2)) = L2) (k : PW G M d Ps E kc ks pc2 L2 S h) : PW G M d Ps E kc ks pc L (.float x :: S) h := by
  subst hp
  exact pw_liftL (fun hx hb hl kk => lv_fstore hx hb hdg hl hn hl2 kk) k
theorem pw_dstore {i : Nat} {x : UInt64} {L2 : List (Nat × Value)} (hdg : decode M.2.1 pc = .ok (.dstore i, 2)) (hp : pc + 2 = pc2) (hn : i + 1 < M.2.2.1) (hl2 : (i, Value.double x) :: L.filter (fun q => !(q.1 == i) && (!(q.1 == i + 1) && !(q.1 + 1 == i && q.2.category == 2))) = L2) (k : PW G M d Ps E kc ks pc2 L2 S h) : PW G M d Ps E kc ks pc L (.double x :: S) h := by
  subst hp
  exact pw_liftL (fun hx hb hl kk => lv_dstore hx hb hdg hl hn hl2 kk) k
theorem pw_astore_n {k : Fin 4} {i : Nat} {v : Value} {L2 : List (Nat × Value)} (hdg : decode M.2.1 pc = .ok (.astore_n k, 1)) (hp : pc + 1 = pc2) (hi : (k : Nat) = i) (hn : i < M.2.2.1) (hv : isRf v) (hl2 : (i, v) :: L.filter (fun q => !(q.1 == i) && !(q.1 + 1 == i && q.2.category == 2)) = L2) (k : PW G M d Ps E kc ks pc2 L2 S h) : PW G M d Ps E kc ks pc L (v :: S) h := by
  subst hp
  rcases hv with rfl | ⟨a, rfl⟩
  · exact pw_liftL (fun hx hb hl kk => lv_astore_nN hx hb hdg hi hl hn hl2 kk) k
  · exact pw_liftL (fun hx hb hl kk => lv_astore_n hx hb hdg hi hl hn hl2 kk) k
theorem pw_astore {i : Nat} {v : Value} {L2 : List (Nat × Value)} (hdg : decode M.2.1 pc = .ok (.astore i, 2)) (hp : pc + 2 = pc2) (hn : i < M.2.2.1) (hv : isRf v) (hl2 : (i, v) :: L.filter (fun q => !(q.1 == i) && !(q.1 + 1 == i && q.2.category == 2)) = L2) (k : PW G M d Ps E kc ks pc2 L2 S h) : PW G M d Ps E kc ks pc L (v :: S) h := by
  subst hp
  rcases hv with rfl | ⟨a, rfl⟩
  · exact pw_liftL (fun hx hb hl kk => lv_astoreN hx hb hdg hl hn hl2 kk) k
  · exact pw_liftL (fun hx hb hl kk => lv_astore hx hb hdg hl hn hl2 kk) k
theorem pw_iinc {i : Nat} {n : Int} {x v : Int32} {L2 : List (Nat × Value)} (hdg : decode M.2.1 pc = .ok (.iinc i n, 3)) (hp : pc + 3 = pc2) (j : Nat) (hj : L[j]? = some (i, .int x)) (hv : x + Int32.ofInt n = v) (hn : i < M.2.2.1) (hl2 : (i, Value.int v) :: L.filter (fun q => !(q.1 == i) && !(q.1 + 1 == i && q.2.category == 2)) = L2) (k : PW G M d Ps E kc ks pc2 L2 S h) : PW G M d Ps E kc ks pc L S h := by
  subst hp
  exact pw_liftL (fun hx hb hl kk => lv_iinc hx hb hdg hl hj hv hn hl2 kk) k
theorem pw_goto {off : Int} (hdg : decode M.2.1 pc = .ok (.goto off, 3)) (ht : (pc : Int) + off = (tgt : Int)) (k : PW G M d Ps E kc ks tgt L S h) : PW G M d Ps E kc ks pc L S h := pw_lift (fun hx hb hl kk => lv_goto hx hb hdg ht kk) k

theorem pw_if_eq {x : Int32} {off : Int} (hdg : decode M.2.1 pc = .ok (.ifCond .eq off, 3)) (ht : (pc : Int) + off = (tgt : Int)) (hp : pc + 3 = pc2) (kt : x = 0 → PW G M d Ps E kc ks tgt L S h) (kf : ¬ x = 0 → PW G M d Ps E kc ks pc2 L S h) : PW G M d Ps E kc ks pc L (.int x :: S) h := by
  subst hp
  exact pw_lift2 (fun hx hb k1 k2 => lv_if_eq hx hb hdg ht k1 k2) kt kf
theorem pw_icmp_eq {x y : Int32} {off : Int} (hdg : decode M.2.1 pc = .ok (.if_icmp .eq off, 3)) (ht : (pc : Int) + off = (tgt : Int)) (hp : pc + 3 = pc2) (kt : x = y → PW G M d Ps E kc ks tgt L S h) (kf : ¬ x = y → PW G M d Ps E kc ks pc2 L S h) : PW G M d Ps E kc ks pc L (.int y :: .int x :: S) h := by
  subst hp
  exact pw_lift2 (fun hx hb k1 k2 => lv_icmp_eq hx hb hdg ht k1 k2) kt kf
theorem pw_if_ne {x : Int32} {off : Int} (hdg : decode M.2.1 pc = .ok (.ifCond .ne off, 3)) (ht : (pc : Int) + off = (tgt : Int)) (hp : pc + 3 = pc2) (kt : ¬ x = 0 → PW G M d Ps E kc ks tgt L S h) (kf : x = 0 → PW G M d Ps E kc ks pc2 L S h) : PW G M d Ps E kc ks pc L (.int x :: S) h := by
  subst hp
  exact pw_lift2 (fun hx hb k1 k2 => lv_if_ne hx hb hdg ht k1 k2) kt kf
theorem pw_icmp_ne {x y : Int32} {off : Int} (hdg : decode M.2.1 pc = .ok (.if_icmp .ne off, 3)) (ht : (pc : Int) + off = (tgt : Int)) (hp : pc + 3 = pc2) (kt : ¬ x = y → PW G M d Ps E kc ks tgt L S h) (kf : x = y → PW G M d Ps E kc ks pc2 L S h) : PW G M d Ps E kc ks pc L (.int y :: .int x :: S) h := by
  subst hp
  exact pw_lift2 (fun hx hb k1 k2 => lv_icmp_ne hx hb hdg ht k1 k2) kt kf
theorem pw_if_lt {x : Int32} {off : Int} (hdg : decode M.2.1 pc = .ok (.ifCond .lt off, 3)) (ht : (pc : Int) + off = (tgt : Int)) (hp : pc + 3 = pc2) (kt : x < 0 → PW G M d Ps E kc ks tgt L S h) (kf : ¬ x < 0 → PW G M d Ps E kc ks pc2 L S h) : PW G M d Ps E kc ks pc L (.int x :: S) h := by
  subst hp
  exact pw_lift2 (fun hx hb k1 k2 => lv_if_lt hx hb hdg ht k1 k2) kt kf
theorem pw_icmp_lt {x y : Int32} {off : Int} (hdg : decode M.2.1 pc = .ok (.if_icmp .lt off, 3)) (ht : (pc : Int) + off = (tgt : Int)) (hp : pc + 3 = pc2) (kt : x < y → PW G M d Ps E kc ks tgt L S h) (kf : ¬ x < y → PW G M d Ps E kc ks pc2 L S h) : PW G M d Ps E kc ks pc L (.int y :: .int x :: S) h := by
  subst hp
  exact pw_lift2 (fun hx hb k1 k2 => lv_icmp_lt hx hb hdg ht k1 k2) kt kf
theorem pw_if_ge {x : Int32} {off : Int} (hdg : decode M.2.1 pc = .ok (.ifCond .ge off, 3)) (ht : (pc : Int) + off = (tgt : Int)) (hp : pc + 3 = pc2) (kt : 0 ≤ x → PW G M d Ps E kc ks tgt L S h) (kf : ¬ 0 ≤ x → PW G M d Ps E kc ks pc2 L S h) : PW G M d Ps E kc ks pc L (.int x :: S) h := by
  subst hp
  exact pw_lift2 (fun hx hb k1 k2 => lv_if_ge hx hb hdg ht k1 k2) kt kf
theorem pw_icmp_ge {x y : Int32} {off : Int} (hdg : decode M.2.1 pc = .ok (.if_icmp .ge off, 3)) (ht : (pc : Int) + off = (tgt : Int)) (hp : pc + 3 = pc2) (kt : y ≤ x → PW G M d Ps E kc ks tgt L S h) (kf : ¬ y ≤ x → PW G M d Ps E kc ks pc2 L S h) : PW G M d Ps E kc ks pc L (.int y :: .int x :: S) h := by
  subst hp
  exact pw_lift2 (fun hx hb k1 k2 => lv_icmp_ge hx hb hdg ht k1 k2) kt kf
theorem pw_if_gt {x : Int32} {off : Int} (hdg : decode M.2.1 pc = .ok (.ifCond .gt off, 3)) (ht : (pc : Int) + off = (tgt : Int)) (hp : pc + 3 = pc2) (kt : 0 < x → PW G M d Ps E kc ks tgt L S h) (kf : ¬ 0 < x → PW G M d Ps E kc ks pc2 L S h) : PW G M d Ps E kc ks pc L (.int x :: S) h := by
  subst hp
  exact pw_lift2 (fun hx hb k1 k2 => lv_if_gt hx hb hdg ht k1 k2) kt kf
theorem pw_icmp_gt {x y : Int32} {off : Int} (hdg : decode M.2.1 pc = .ok (.if_icmp .gt off, 3)) (ht : (pc : Int) + off = (tgt : Int)) (hp : pc + 3 = pc2) (kt : y < x → PW G M d Ps E kc ks tgt L S h) (kf : ¬ y < x → PW G M d Ps E kc ks pc2 L S h) : PW G M d Ps E kc ks pc L (.int y :: .int x :: S) h := by
  subst hp
  exact pw_lift2 (fun hx hb k1 k2 => lv_icmp_gt hx hb hdg ht k1 k2) kt kf
theorem pw_if_le {x : Int32} {off : Int} (hdg : decode M.2.1 pc = .ok (.ifCond .le off, 3)) (ht : (pc : Int) + off = (tgt : Int)) (hp : pc + 3 = pc2) (kt : x ≤ 0 → PW G M d Ps E kc ks tgt L S h) (kf : ¬ x ≤ 0 → PW G M d Ps E kc ks pc2 L S h) : PW G M d Ps E kc ks pc L (.int x :: S) h := by
  subst hp
  exact pw_lift2 (fun hx hb k1 k2 => lv_if_le hx hb hdg ht k1 k2) kt kf
theorem pw_icmp_le {x y : Int32} {off : Int} (hdg : decode M.2.1 pc = .ok (.if_icmp .le off, 3)) (ht : (pc : Int) + off = (tgt : Int)) (hp : pc + 3 = pc2) (kt : x ≤ y → PW G M d Ps E kc ks tgt L S h) (kf : ¬ x ≤ y → PW G M d Ps E kc ks pc2 L S h) : PW G M d Ps E kc ks pc L (.int y :: .int x :: S) h := by
  subst hp
  exact pw_lift2 (fun hx hb k1 k2 => lv_icmp_le hx hb hdg ht k1 k2) kt kf
theorem pw_acmp_eq {rx ry : Option Nat} {off : Int} (hdg : decode M.2.1 pc = .ok (.if_acmp .eq off, 3)) (ht : (pc : Int) + off = (tgt : Int)) (hp : pc + 3 = pc2) (kt : rx = ry → PW G M d Ps E kc ks tgt L S h) (kf : ¬ rx = ry → PW G M d Ps E kc ks pc2 L S h) : PW G M d Ps E kc ks pc L (va_rf ry :: va_rf rx :: S) h := by
  subst hp
  exact pw_lift2 (fun hx hb k1 k2 => lv_acmp_eq hx hb hdg ht k1 k2) kt kf
theorem pw_acmp_ne {rx ry : Option Nat} {off : Int} (hdg : decode M.2.1 pc = .ok (.if_acmp .ne off, 3)) (ht : (pc : Int) + off = (tgt : Int)) (hp : pc + 3 = pc2) (kt : ¬ rx = ry → PW G M d Ps E kc ks tgt L S h) (kf : rx = ry → PW G M d Ps E kc ks pc2 L S h) : PW G M d Ps E kc ks pc L (va_rf ry :: va_rf rx :: S) h := by
  subst hp
  exact pw_lift2 (fun hx hb k1 k2 => lv_acmp_ne hx hb hdg ht k1 k2) kt kf
theorem pw_ifnull {r : Option Nat} {off : Int} (hdg : decode M.2.1 pc = .ok (.ifnull off, 3)) (ht : (pc : Int) + off = (tgt : Int)) (hp : pc + 3 = pc2) (kt : r = none → PW G M d Ps E kc ks tgt L S h) (kf : ∀ a : Nat, r = some a → PW G M d Ps E kc ks pc2 L S h) : PW G M d Ps E kc ks pc L (va_rf r :: S) h := by
  subst hp
  cases r with
  | none => exact pw_lift (fun hx hb hl kk => lv_ifnullN hx hb hdg ht kk) (kt rfl)
  | some a => exact pw_lift (fun hx hb hl kk => lv_ifnull hx hb hdg kk) (kf a rfl)
theorem pw_ifnonnull {r : Option Nat} {off : Int} (hdg : decode M.2.1 pc = .ok (.ifnonnull off, 3)) (ht : (pc : Int) + off = (tgt : Int)) (hp : pc + 3 = pc2) (kt : ∀ a : Nat, r = some a → PW G M d Ps E kc ks tgt L S h) (kf : r = none → PW G M d Ps E kc ks pc2 L S h) : PW G M d Ps E kc ks pc L (va_rf r :: S) h := by
  subst hp
  cases r with
  | none => exact pw_lift (fun hx hb hl kk => lv_ifnonnullN hx hb hdg kk) (kf rfl)
  | some a => exact pw_lift (fun hx hb hl kk => lv_ifnonnull hx hb hdg ht kk) (kt a rfl)
theorem pw_tableIn {dflt lo hi : Int} {offs : Array Int} {len : Nat} {x : Int32} {off : Int} (hdg : decode M.2.1 pc = .ok (.tableswitch dflt lo hi offs, len)) (h1 : ¬ x.toInt < lo) (h2 : ¬ hi < x.toInt) (ho : offs[(x.toInt - lo).toNat]? = some off) (ht : (pc : Int) + off = (tgt : Int)) (k : PW G M d Ps E kc ks tgt L S h) : PW G M d Ps E kc ks pc L (.int x :: S) h := pw_lift (fun hx hb hl kk => lv_tableIn hx hb hdg h1 h2 ho ht kk) k
theorem pw_tableOut {dflt lo hi : Int} {offs : Array Int} {len : Nat} {x : Int32} (hdg : decode M.2.1 pc = .ok (.tableswitch dflt lo hi offs, len)) (h1 : x.toInt < lo ∨ hi < x.toInt) (ht : (pc : Int) + dflt = (tgt : Int)) (k : PW G M d Ps E kc ks tgt L S h) : PW G M d Ps E kc ks pc L (.int x :: S) h := pw_lift (fun hx hb hl kk => lv_tableOut hx hb hdg h1 ht kk) k
/-- less is asked -/
theorem PW.widen {kc' ks' : Nat} (h1 : kc' ≤ kc) (h2 : ks' ≤ ks) (k : PW G M d Ps E kc' ks' pc L S h) : PW G M d Ps E kc ks pc L S h := by
  intro p l e R s m args below meth c A H locs cells slots ls MC MS C hR hS hl hm
  exact k p l e R s m args below meth c A H locs cells slots ls MC MS C hR hS hl ⟨by omega, by omega, hm.2.2.1, hm.2.2.2⟩
/-- locals in another order, or fewer -/
theorem PW.sub {L2 : List (Nat × Value)} (is : List Nat) (hs : lv_pick L is = L2) (k : PW G M d Ps E kc ks pc L2 S h) : PW G M d Ps E kc ks pc L S h := by
  intro p l e R s m args below meth c A H locs cells slots ls MC MS C hR hS hl hm
  exact k p l e R s m args below meth c A H locs cells slots ls MC MS C hR hS (lv_sub hl is hs) hm
end PWR
end
section
/-! ends, calls, throws, handlers over the pure heap -/
theorem gi_of {l : List Cond} (h : ∀ w ∈ l, w ∈ gws) : GoodIn gws l := fun w hw => gws_good w (h w hw)
theorem nestW_tab {w : Cond} (h : nestW w = true) : w.onTables = true := by
  cases w <;> first | rfl | cases h
theorem nws_use {U : State} {A : Array Value} (hE : hEnv U) {w : Cond} (h : w ∈ nws) : w.before A U = true := va_Nw.use (nestW_tab (List.mem_filter.mp h).2) (hE.1 w h)
theorem hPre.blind {G : hG} {h : hp} {sz : Nat} {As : List Value} : FrameBlind (va_Pc As (hPre G h sz)) := fun a U g mk H => ⟨H.1, hPre.vm (u := U) (U := U.calling g mk a) rfl (State.WarmedH.refl U) H.2⟩
section PWC
variable {G : hG} {M M2 : hMI} {d : Nat} {Ps : hAmb} {E : hEnd} {kc ks mc ms pc pc2 tgt : Nat} {L : List (Nat × Value)} {S rest : List Value} {h : hp} {Q : Option Value → hp → Prop} {X : String → hp → Prop}
theorem CX.pre {p : Program} {l : Launch} {R : Room} {s : State} {m : MethodId} {args : Array Value} {meth : Method} {c : Code} {A : Nat → Prop} {H : Heap} {locs : List Loc} (C : CX G M d Ps p l R s m args meth c A) (hR : RQ G A h H) (hS : va_S A s.heap H locs) {U : State} (hU : U.heap = H) (hW : s.WarmedH U.vm) : hPre G h H.size U := by
  obtain ⟨-, -, -, -, -, -, -, -, -, -, -, hKk, hEe, hSt0, hA, -⟩ := C
  have hA2 : ∀ q : Nat, H.size ≤ q → A q := fun q hq => hA q (Nat.le_trans hS.1 hq)
  refine ⟨by rw [hU], by rw [hU]; exact hR.toDm _, ?_, va_K.moved hW.alike hKk, hEe.warm hW⟩
  rw [hU]
  exact ((hSt0.kept hS.2.1).narrow (hR.dmSub hA2)).moved hW.alike
theorem run_W {p : Program} {l : Launch} {e : Env} {R : Room} {s : State} {m : MethodId} {args : Array Value} {below : List Frame} {meth : Method} {c : Code} {A : Nat → Prop} {H : Heap} {locs : List Loc} {cells slots : Nat} {ls : Array Slot} {Qz : State → Prop} {a : Array Value}
    (hr : vx_Run p l e R s m args below meth c H locs cells slots mc ms (F0 m pc ls S) rest (hQc G Q (dm G h H.size) a) (hXc G X (dm G h H.size)) (dm G h H.size)) (C : CX G M d Ps p l R s m args meth c A) (hR : RQ G A h H) (hS : va_S A s.heap H locs)
    (kk : ∀ (r : Option Value) (h' : hp) (H1 : Heap) (locs1 : List Loc), Q r h' → RQ G A h' H1 → va_S A s.heap H1 locs1 → W p l e R s m args below meth c H1 locs1 (cells + mc) (slots + ms) Qz (F0 m (pc + 3) ls (r.toList ++ rest)))
    (kx : ∀ (Y : String) (h' : hp) (H1 : Heap) (locs1 : List Loc) (ce : Cell) (q : Addr), X Y h' → RQ G A h' H1 → va_S A s.heap H1 locs1 → H1[q]? = some ce → ce.vm = .none → s.vm.findClass Y = some ce.cls → vx_W p l e R s m args below meth c H1 locs1 (cells + mc) (slots + ms) Qz (F0 m pc ls rest) q) :
    W p l e R s m args below meth c H locs cells slots Qz (F0 m pc ls S) := by
  have hA := C.2.2.2.2.2.2.2.2.2.2.2.2.2.2.1
  have hA2 : ∀ q : Nat, H.size ≤ q → A q := fun q hq => hA q (Nat.le_trans hS.1 hq)
  have hsub := hR.dmSub hA2
  intro T hT Xs
  rcases hr T hT Xs with ⟨v, st₀, t, T', Ls, h0, X', hL, e1, e2, ⟨⟨r, h', hv, hq, hR'⟩, hF⟩, st⟩ | ⟨q, st₀, t, T', Ls, Y, ce, h0, X', hL, e1, e2, ⟨⟨h', hq, hR'⟩, hF⟩, hce, hcv, hcl, st⟩
  · cases hv
    obtain ⟨k1, k2, k3⟩ := vx_keep h0 e1 hS (fun q _ hq => hsub q hq) hsub hL hF
    obtain ⟨t2, a1, b1⟩ := kk _ h' T'.heap (locs ++ Ls) hq (by rw [e1]; exact hR'.wide hsub) k3 T' rfl X'
    exact ⟨t2, st t2 a1, b1⟩
  · obtain ⟨k1, k2, k3⟩ := vx_keep h0 e1 hS (fun q _ hq => hsub q hq) hsub hL hF
    obtain ⟨t2, a1, b1⟩ := kx Y h' T'.heap (locs ++ Ls) ce q hq (by rw [e1]; exact hR'.wide hsub) k3 (by rw [e1]; exact hce) hcv hcl T' rfl X'
    exact ⟨t2, st.trans a1, b1⟩
/-! ends -/
theorem pw_iret {v : Int32} {ty : FieldType} (hdg : decode M.2.1 pc = .ok (.ireturn, 1)) (hr : M.2.2.2.1 = some ty) (hn : narrow ty (.int v) = .int v) (hq : Q (some (.int v)) h) : PW G M d Ps (E0 G Q X) kc ks pc L [.int v] h := by
  intro p l e R s m args below meth c A H locs cells slots ls MC MS C hR hS hl hm
  refine W.widen (k := MC) (n := MS) (by omega) (by omega) (vx_ret ?_)
  exact W.zret C.1 C.2.1 (C.2.2.2.2.2.1.trans hr) hn (fun t ht hW => ⟨⟨_, h, rfl, hq, by rw [ht]; exact hR⟩, hS.F ht⟩) hS.2.2 hdg C.2.2.2.2.2.2.2.2.1
theorem pw_vret (hdg : decode M.2.1 pc = .ok (.return_, 1)) (hr : M.2.2.2.1 = none) (hq : Q none h) : PW G M d Ps (E0 G Q X) kc ks pc L [] h := by
  intro p l e R s m args below meth c A H locs cells slots ls MC MS C hR hS hl hm
  refine W.widen (k := MC) (n := MS) (by omega) (by omega) (vx_ret ?_)
  exact W.vret C.1 C.2.1 (C.2.2.2.2.2.1.trans hr) (fun t ht hW => ⟨⟨_, h, rfl, hq, by rw [ht]; exact hR⟩, hS.F ht⟩) hS.2.2 hdg C.2.2.2.2.2.2.2.2.1
theorem pw_aret {v : Value} {rt : FieldType} (hdg : decode M.2.1 pc = .ok (.areturn, 1)) (hr : M.2.2.2.1 = some rt) (hrt : (∃ n, rt = .object n) ∨ ∃ t, rt = .array t) (hv : isRf v) (hq : Q (some v) h) : PW G M d Ps (E0 G Q X) kc ks pc L [v] h := by
  intro p l e R s m args below meth c A H locs cells slots ls MC MS C hR hS hl hm
  refine W.widen (k := MC) (n := MS) (by omega) (by omega) (vx_ret ?_)
  exact W.aret C.1 C.2.1 (C.2.2.2.2.2.1.trans hr) hrt hv (fun t ht hW => ⟨⟨_, h, rfl, hq, by rw [ht]; exact hR⟩, hS.F ht⟩) hS.2.2 hdg C.2.2.2.2.2.2.2.2.1
theorem pw_fret {v : UInt32} (hdg : decode M.2.1 pc = .ok (.freturn, 1)) (hr : M.2.2.2.1 = some .float) (hq : Q (some (.float v)) h) : PW G M d Ps (E0 G Q X) kc ks pc L [.float v] h := by
  intro p l e R s m args below meth c A H locs cells slots ls MC MS C hR hS hl hm
  refine W.widen (k := MC) (n := MS) (by omega) (by omega) (vx_ret ?_)
  exact W.fret C.1 C.2.1 (C.2.2.2.2.2.1.trans hr) (fun t ht hW => ⟨⟨_, h, rfl, hq, by rw [ht]; exact hR⟩, hS.F ht⟩) hS.2.2 hdg C.2.2.2.2.2.2.2.2.1
theorem pw_dret {v : UInt64} (hdg : decode M.2.1 pc = .ok (.dreturn, 1)) (hr : M.2.2.2.1 = some .double) (hq : Q (some (.double v)) h) : PW G M d Ps (E0 G Q X) kc ks pc L [.double v] h := by
  intro p l e R s m args below meth c A H locs cells slots ls MC MS C hR hS hl hm
  refine W.widen (k := MC) (n := MS) (by omega) (by omega) (vx_ret ?_)
  exact W.dret C.1 C.2.1 (C.2.2.2.2.2.1.trans hr) (fun t ht hW => ⟨⟨_, h, rfl, hq, by rw [ht]; exact hR⟩, hS.F ht⟩) hS.2.2 hdg C.2.2.2.2.2.2.2.2.1
/-! calls: the words of a site -/
def codeW (M2 : hMI) : Cond := if M2.2.2.2.2 = [] then Cond.code M2.1 M2.2.1 M2.2.2.1 M2.2.2.2.1 else Cond.codeWith M2.1 M2.2.1 M2.2.2.1 M2.2.2.2.1 M2.2.2.2.2
def CS0 (M M2 : hMI) (idx n : Nat) : Prop := Cond.methodLink M.1.cls idx M2.1 ∈ gws ∧ Cond.initialized M2.1.cls ∈ gws ∧ codeW M2 ∈ gws ∧ (M2.1.cls ≠ "java/lang/invoke/MethodHandle" ∧ M2.1.cls ≠ "java/lang/invoke/VarHandle" ∧ (parseMethodDescriptor M2.1.desc).map (fun d => d.parameters.length) = some n) ∧ M2.2.2.1 ≤ 20
/-- a static call -/
def CSs (M M2 : hMI) (idx n : Nat) : Prop := CS0 M M2 idx n ∧ Cond.static M2.1 ∈ gws
/-- a virtual call of a method of the receiver's own class, which is number ci -/
def CSv (M M2 : hMI) (idx n ci : Nat) : Prop := CS0 M M2 idx n ∧ Cond.instanceMethod M2.1 ∈ gws ∧ Cond.selects M2.1.cls M2.1 M2.1 ∈ gws ∧ ∃ (T : u_T) (N : Nat), vwCl[ci]? = some (M2.1.cls, T, N)
/-- a constructor's call -/
def CSi (M M2 : hMI) (idx n : Nat) : Prop := CS0 M M2 idx n ∧ Cond.instanceMethod M2.1 ∈ gws ∧ M2.1.name = "<init>"
theorem pw_callS {k idx n : Nat} {As : List Value} (hc : PMet G M2 k mc ms As h Q X) (cs : CSs M M2 idx n) (hn : As.length = n) (hdg : decode M.2.1 pc = .ok (.invokestatic idx, 3)) (hpc : pc + 3 = pc2) (hd : k + 1 ≤ d) (hst : S = As.reverse ++ rest) (hcat : (rest.map fun v => v.category).sum ≤ 8)
    (kk : ∀ (r : Option Value) (h' : hp), Q r h' → PW G M d Ps E kc ks pc2 L (r.toList ++ rest) h') (kx : ∀ (Y : String) (h' : hp), X Y h' → PX G M d Ps E kc ks pc L Y h') : PW G M d Ps E (mc + kc) (ms + ks) pc L S h := by
  subst hpc
  intro p l e R s m args below meth c A H locs cells slots ls MC MS C hR hS hl hm
  have C0 := C
  obtain ⟨hx, hb, hml, hown, hts, hr, htab, hnm, hlocks, hst0, ⟨hf1, hf2⟩, hKk, hEe, hSt0, hA, hPs⟩ := C
  obtain ⟨⟨w1, w2, w3, hnames, hmx⟩, w4⟩ := cs
  have hd2 : d - 1 + 1 = d := by omega
  have hMt := hc l (d - 1) H.size hst0 (by omega)
  have hfr : (rmOf (d - 1) mc ms).frames + 1 ≤ R.frames := by show d - 1 + 6 + 1 ≤ R.frames; omega
  have hlo : 8 + (M2.2.2.1 + 11) + (rmOf (d - 1) mc ms).locals ≤ R.locals := by show 8 + (M2.2.2.1 + 11) + (40 * (d - 1) + 100) ≤ R.locals; omega
  have hpre : PreS s H (va_Pc As (hPre G h H.size)) As := ⟨hPre.blind, fun U hU hW => ⟨rfl, C0.pre hR hS hU hW⟩⟩
  have hin : ∀ w ∈ va_wsS M.1.cls idx M2.1 (wsOf M2), w ∈ gws := by
    intro w hw
    unfold va_wsS at hw
    rcases List.mem_append.mp hw with hw | hw
    · simp only [List.mem_cons, List.not_mem_nil, or_false] at hw
      rcases hw with rfl | rfl | rfl
      · exact w1
      · exact w4
      · exact w2
    · rcases List.mem_cons.mp hw with rfl | hw
      · exact w3
      · exact hw
  have hrun : vx_Run p l e R s m args below meth c H locs cells slots mc ms (F0 m pc ls S) rest (hQc G Q (dm G h H.size) As.toArray) (hXc G X (dm G h H.size)) (dm G h H.size) := by
    by_cases hh : M2.2.2.2.2 = []
    · exact vx_runS ⟨hx, hb, hml, hown, hts⟩ hMt (va_cwS n hts (gi_of hin) (by unfold wsOf; rw [if_pos hh]) rfl rfl hnames ⟨hfr, hlo⟩) hpre rfl hn hl.1 hst (lv_room hcat) hdg ⟨by omega, by omega⟩
    · exact vx_runSX (hh := M2.2.2.2.2) ⟨hx, hb, hml, hown, hts⟩ hMt (vx_cwSW n hts (gi_of hin) (by unfold wsOf; rw [if_neg hh]) rfl rfl hnames ⟨hfr, hlo⟩) hpre rfl hn hl.1 hst (lv_room hcat) hdg ⟨by omega, by omega⟩
  exact run_W hrun C0 hR hS (fun r h' H1 locs1 q1 q2 q3 => kk r h' q1 p l e R s m args below meth c A H1 locs1 _ _ ls MC MS C0 q2 q3 hl ⟨by omega, by omega, hm.2.2.1, hm.2.2.2⟩)
    (fun Y h' H1 locs1 ce q q1 q2 q3 q4 q5 q6 => kx Y h' q1 p l e R s m args below meth c A H1 locs1 _ _ ls MC MS rest ce q C0 q2 q3 hl ⟨by omega, by omega, hm.2.2.1, hm.2.2.2⟩ q4 q5 q6)
theorem pw_callV {k idx n ci b : Nat} {fs : List Value} {As : List Value} (hc : PMet G M2 k mc ms (.ref b :: As) h Q X) (cs : CSv M M2 idx n ci) (hn : As.length = n) (hh : M2.2.2.2.2 = []) (hbo : h b = some (.inr (ci, fs))) (hdg : decode M.2.1 pc = .ok (.invokevirtual idx, 3)) (hpc : pc + 3 = pc2) (hd : k + 1 ≤ d) (hst : S = As.reverse ++ .ref b :: rest) (hcat : (rest.map fun v => v.category).sum ≤ 8)
    (kk : ∀ (r : Option Value) (h' : hp), Q r h' → PW G M d Ps E kc ks pc2 L (r.toList ++ rest) h') (kx : ∀ (Y : String) (h' : hp), X Y h' → PX G M d Ps E kc ks pc L Y h') : PW G M d Ps E (mc + kc) (ms + ks) pc L S h := by
  subst hpc
  intro p l e R s m args below meth c A H locs cells slots ls MC MS C hR hS hl hm
  have C0 := C
  obtain ⟨hx, hb, hml, hown, hts, hr, htab, hnm, hlocks, hst0, ⟨hf1, hf2⟩, hKk, hEe, hSt0, hA, hPs⟩ := C
  obtain ⟨⟨w1, w2, w3, hnames, hmx⟩, w4, w5, T, N, hcl⟩ := cs
  have hMt := hc l (d - 1) H.size hst0 (by omega)
  have hfr : (rmOf (d - 1) mc ms).frames + 1 ≤ R.frames := by show d - 1 + 6 + 1 ≤ R.frames; omega
  have hlo : 8 + (M2.2.2.1 + 11) + (rmOf (d - 1) mc ms).locals ≤ R.locals := by show 8 + (M2.2.2.1 + 11) + (40 * (d - 1) + 100) ≤ R.locals; omega
  have hpre : PreV s H M2.1.cls b (va_Pc (.ref b :: As) (hPre G h H.size)) As := ⟨hPre.blind, va_recv (q0 := 0) hKk (hR.one hbo) hcl rfl, fun U hU hW => ⟨rfl, C0.pre hR hS hU hW⟩⟩
  have hin : ∀ w ∈ wsV M.1.cls idx M2.1.cls M2.1 (wsOf M2), w ∈ gws := by
    intro w hw
    unfold wsV at hw
    rcases List.mem_append.mp hw with hw | hw
    · simp only [List.mem_cons, List.not_mem_nil, or_false] at hw
      rcases hw with rfl | rfl | rfl | rfl
      · exact w1
      · exact w4
      · exact w5
      · exact w2
    · rcases List.mem_cons.mp hw with rfl | hw
      · exact w3
      · exact hw
  have hrun : vx_Run p l e R s m args below meth c H locs cells slots mc ms (F0 m pc ls S) rest (hQc G Q (dm G h H.size) (Value.ref b :: As).toArray) (hXc G X (dm G h H.size)) (dm G h H.size) :=
    vx_runV ⟨hx, hb, hml, hown, hts⟩ hMt (cwV n hts (gi_of hin) (by unfold wsOf; rw [if_pos hh]) rfl rfl ⟨rfl, hnames⟩ ⟨hfr, hlo⟩) hpre rfl hn hl.1 hst (lv_room hcat) hdg ⟨by omega, by omega⟩
  exact run_W hrun C0 hR hS (fun r h' H1 locs1 q1 q2 q3 => kk r h' q1 p l e R s m args below meth c A H1 locs1 _ _ ls MC MS C0 q2 q3 hl ⟨by omega, by omega, hm.2.2.1, hm.2.2.2⟩)
    (fun Y h' H1 locs1 ce q q1 q2 q3 q4 q5 q6 => kx Y h' q1 p l e R s m args below meth c A H1 locs1 _ _ ls MC MS rest ce q C0 q2 q3 hl ⟨by omega, by omega, hm.2.2.1, hm.2.2.2⟩ q4 q5 q6)
theorem pw_callI {k idx n b : Nat} {As : List Value} (hc : PMet G M2 k mc ms (.ref b :: As) h Q X) (cs : CSi M M2 idx n) (hn : As.length = n) (hh : M2.2.2.2.2 = []) (hrt : M2.2.2.2.1 = none) (hdg : decode M.2.1 pc = .ok (.invokespecial idx, 3)) (hpc : pc + 3 = pc2) (hd : k + 1 ≤ d) (hst : S = As.reverse ++ .ref b :: rest) (hcat : (rest.map fun v => v.category).sum ≤ 8)
    (kk : ∀ (r : Option Value) (h' : hp), Q r h' → PW G M d Ps E kc ks pc2 L (r.toList ++ rest) h') (kx : ∀ (Y : String) (h' : hp), X Y h' → PX G M d Ps E kc ks pc L Y h') : PW G M d Ps E (mc + kc) (ms + ks) pc L S h := by
  subst hpc
  intro p l e R s m args below meth c A H locs cells slots ls MC MS C hR hS hl hm
  have C0 := C
  obtain ⟨hx, hb, hml, hown, hts, hr, htab, hnm, hlocks, hst0, ⟨hf1, hf2⟩, hKk, hEe, hSt0, hA, hPs⟩ := C
  obtain ⟨⟨w1, w2, w3, hnames, hmx⟩, w4, hin0⟩ := cs
  have hMt := hc l (d - 1) H.size hst0 (by omega)
  have hfr : (rmOf (d - 1) mc ms).frames + 1 ≤ R.frames := by show d - 1 + 6 + 1 ≤ R.frames; omega
  have hlo : 8 + (M2.2.2.1 + 11) + (rmOf (d - 1) mc ms).locals ≤ R.locals := by show 8 + (M2.2.2.1 + 11) + (40 * (d - 1) + 100) ≤ R.locals; omega
  have hpre : PreS s H (va_Pc (.ref b :: As) (hPre G h H.size)) (.ref b :: As) := ⟨hPre.blind, fun U hU hW => ⟨rfl, C0.pre hR hS hU hW⟩⟩
  have hws : wsOf M2 = Cond.code M2.1 M2.2.1 M2.2.2.1 none :: gws := by unfold wsOf; rw [if_pos hh, hrt]
  have hin : ∀ w ∈ wsOf M2, w ∈ gws := by
    intro w hw
    rcases List.mem_cons.mp hw with rfl | hw
    · exact w3
    · exact hw
  have hrun : vx_Run p l e R s m args below meth c H locs cells slots mc ms (F0 m pc ls S) rest (hQc G Q (dm G h H.size) (Value.ref b :: As).toArray) (hXc G X (dm G h H.size)) (dm G h H.size) :=
    vx_runI ⟨hx, hb, hml, hown, hts⟩ hMt ⟨callB_of n hts (gi_of hin) hws rfl rfl (hts _ w2) (hts _ w1) hnames ⟨hfr, hlo⟩, hin0, hts _ w4⟩ hpre rfl hn hl.1 hst (lv_room hcat) hdg ⟨by omega, by omega⟩
  exact run_W hrun C0 hR hS (fun r h' H1 locs1 q1 q2 q3 => kk r h' q1 p l e R s m args below meth c A H1 locs1 _ _ ls MC MS C0 q2 q3 hl ⟨by omega, by omega, hm.2.2.1, hm.2.2.2⟩)
    (fun Y h' H1 locs1 ce q q1 q2 q3 q4 q5 q6 => kx Y h' q1 p l e R s m args below meth c A H1 locs1 _ _ ls MC MS rest ce q C0 q2 q3 hl ⟨by omega, by omega, hm.2.2.1, hm.2.2.2⟩ q4 q5 q6)
/-- a static call of a nest mate's private method -/
def CSn (M M2 : hMI) (idx n : Nat) : Prop := (∃ host : String, Cond.methodLinkNest M.1.cls idx M2.1 host ∈ nws) ∧ Cond.initialized M2.1.cls ∈ gws ∧ codeW M2 ∈ gws ∧ (M2.1.cls ≠ "java/lang/invoke/MethodHandle" ∧ M2.1.cls ≠ "java/lang/invoke/VarHandle" ∧ (parseMethodDescriptor M2.1.desc).map (fun d => d.parameters.length) = some n) ∧ M2.2.2.1 ≤ 20 ∧ Cond.static M2.1 ∈ gws
theorem pw_callN {k idx n : Nat} {As : List Value} (hc : PMet G M2 k mc ms As h Q X) (cs : CSn M M2 idx n) (hn : As.length = n) (hh : M2.2.2.2.2 = []) (hdg : decode M.2.1 pc = .ok (.invokestatic idx, 3)) (hpc : pc + 3 = pc2) (hd : k + 1 ≤ d) (hst : S = As.reverse ++ rest) (hcat : (rest.map fun v => v.category).sum ≤ 8)
    (kk : ∀ (r : Option Value) (h' : hp), Q r h' → PW G M d Ps E kc ks pc2 L (r.toList ++ rest) h') (kx : ∀ (Y : String) (h' : hp), X Y h' → PX G M d Ps E kc ks pc L Y h') : PW G M d Ps E (mc + kc) (ms + ks) pc L S h := by
  subst hpc
  intro p l e R s m args below meth c A H locs cells slots ls MC MS C hR hS hl hm
  have C0 := C
  obtain ⟨hx, hb, hml, hown, hts, hr, htab, hnm, hlocks, hst0, ⟨hf1, hf2⟩, hKk, hEe, hSt0, hA, hPs⟩ := C
  obtain ⟨⟨host, w1⟩, w2, w3, hnames, hmx, w4⟩ := cs
  have hMt := hc l (d - 1) H.size hst0 (by omega)
  have hfr : (rmOf (d - 1) mc ms).frames + 1 ≤ R.frames := by show d - 1 + 6 + 1 ≤ R.frames; omega
  have hlo : 8 + (M2.2.2.1 + 11) + (rmOf (d - 1) mc ms).locals ≤ R.locals := by show 8 + (M2.2.2.1 + 11) + (40 * (d - 1) + 100) ≤ R.locals; omega
  have hpre : PreS s H (va_Pc As (hPre G h H.size)) As := ⟨hPre.blind, fun U hU hW => ⟨rfl, C0.pre hR hS hU hW⟩⟩
  have hin : ∀ w ∈ wsOf M2, w ∈ gws := by
    intro w hw
    rcases List.mem_cons.mp hw with rfl | hw
    · exact w3
    · exact hw
  have hrun : vx_Run p l e R s m args below meth c H locs cells slots mc ms (F0 m pc ls S) rest (hQc G Q (dm G h H.size) As.toArray) (hXc G X (dm G h H.size)) (dm G h H.size) :=
    vx_runSN ⟨hx, hb, hml, hown, hts⟩ hMt ⟨va_cnB (host := host) n hts (gi_of hin) (by unfold wsOf; rw [if_pos hh]) rfl rfl (hEe.1 _ w1) (hts _ w2) hnames ⟨hfr, hlo⟩, hts _ w4, trivial⟩ hpre rfl hn hl.1 hst (lv_room hcat) hdg ⟨by omega, by omega⟩
  exact run_W hrun C0 hR hS (fun r h' H1 locs1 q1 q2 q3 => kk r h' q1 p l e R s m args below meth c A H1 locs1 _ _ ls MC MS C0 q2 q3 hl ⟨by omega, by omega, hm.2.2.1, hm.2.2.2⟩)
    (fun Y h' H1 locs1 ce q q1 q2 q3 q4 q5 q6 => kx Y h' q1 p l e R s m args below meth c A H1 locs1 _ _ ls MC MS rest ce q C0 q2 q3 hl ⟨by omega, by omega, hm.2.2.1, hm.2.2.2⟩ q4 q5 q6)
/-- Object's constructor -/
theorem pw_objInit {idx b : Nat} (w1 : Cond.methodLink M.1.cls idx Lib.objectInit ∈ gws) (w2 : Cond.instanceMethod Lib.objectInit ∈ gws) (w3 : Cond.code Lib.objectInit ⟨#[0xb1]⟩ 1 none ∈ gws) (hdg : decode M.2.1 pc = .ok (.invokespecial idx, 3)) (hpc : pc + 3 = pc2) (hcat : (S.map fun v => v.category).sum ≤ 8) (k : PW G M d Ps E kc ks pc2 L S h) : PW G M d Ps E kc ks pc L (.ref b :: S) h := by
  subst hpc
  intro p l e R s m args below meth c A H locs cells slots ls MC MS C hR hS hl hm
  have C0 := C
  obtain ⟨hx, hb, hml, hown, hts, hr, htab, hnm, hlocks, hst0, ⟨hf1, hf2⟩, hKk, hEe, hSt0, hA, hPs⟩ := C
  exact W.objInit hx hb hown (hts _ w1) (hts _ w2) (hts _ w3) rfl (by rw [hml]; exact hl.1) rfl hdg (by omega) (by have h9 := lv_room (m := m) (pc := pc) (ls := ls) (rest := .ref b :: S) hcat; omega) (k p l e R s m args below meth c A H locs cells slots ls MC MS C0 hR hS hl hm)
/-! throws -/
def excN : List String := ["java/lang/RuntimeException", "java/lang/Exception"]
def TSw (own : String) (ik is ic : Nat) (cls text : String) : Prop := Bundle.fit cls = true ∧ Cond.classLink own ik cls ∈ gws ∧ Cond.initialized cls ∈ gws ∧ Cond.stringRef own is text ∈ lw_tbl ∧ (∀ w ∈ vx_atS own ic cls excN, w ∈ gws ∨ w ∈ nws) ∧ ∀ w ∈ Cond.classLink own ik cls :: Cond.initialized cls :: vx_atS own ic cls excN, vx_ot w = true
theorem excN_fit : ∀ n ∈ excN, Bundle.fit n = true := by decide +kernel
theorem pw_throw {ik is ic : Nat} {cls text : String} (hh : M.2.2.2.2 = []) (ts : TSw M.1.cls ik is ic cls text) (d0 : decode M.2.1 pc = .ok (.new ik, 3)) (d3 : decode M.2.1 (pc + 3) = .ok (.dup, 1)) (d4 : decode M.2.1 (pc + 4) = .ok (.ldc is, 2)) (d6 : decode M.2.1 (pc + 6) = .ok (.invokespecial ic, 3)) (d9 : decode M.2.1 (pc + 9) = .ok (.athrow, 1))
    (hcat : (S.map fun v => v.category).sum ≤ 8) (hX : X cls h) : PW G M d Ps (E0 G Q X) (1 + kc) (6 + ks) pc L S h := by
  intro p l e R s m args below meth c A H locs cells slots ls MC MS C hR hS hl hm
  obtain ⟨hx, hb, hml, hown, hts, hr, htab, hnm, hlocks, hst0, ⟨hf1, hf2⟩, hKk, hEe, hSt0, hA, hPs⟩ := C
  obtain ⟨t1, t2, t3, t4, t5, t6⟩ := ts
  obtain ⟨sa, hsa⟩ := hEe.2.1 _ _ _ t4
  have hex : ∀ x ∈ c.exceptionTable.toList, covers x (pc + 9) = false := by rw [htab, hh]; intro x hx9; cases hx9
  refine vx_throwS (names := excN) (A := A) hx hb hst0 hown t1 excN_fit (hts _ t2) (hts _ t3) hsa (fun w hw => (t5 w hw).elim (fun q => hts w q) (fun q => nws_use hEe q)) t6 hSt0.1 hSt0.2.1 hS (by rw [hml]; exact hl.1) d0 d3 d4 d6 d9 hex
    (by show 2 + 3 < R.frames; omega) (by show _ + (13 * (2 + 1) + 43) ≤ R.locals; omega) (by omega) (by omega) hlocks (fun t _ hz hk => ⟨⟨h, hX, ?_⟩, ?_⟩) hS.2.2 (by omega) (by omega)
  · obtain ⟨⟨Ls, hL, hP, hD⟩, h0, hz0⟩ := hR
    exact ⟨⟨Ls, hL, hP.kept (fun k q hq => hk q.1 (hP k q hq).lt), hD⟩, h0, hz0.kept (hk _ hz0.lt)⟩
  · exact ⟨Nat.le_trans hS.1 hz, fun q h1 h2 => (hk q (Nat.lt_of_lt_of_le h1 hS.1)).trans (hS.2.1 q h1 h2)⟩
theorem pw_throwW {ik is ic : Nat} {cls text : String} (hh : M.2.2.2.2 = []) (ts : TSw M.1.cls ik is ic cls text) (d0 : decode M.2.1 pc = .ok (.new ik, 3)) (d3 : decode M.2.1 (pc + 3) = .ok (.dup, 1)) (d4 : decode M.2.1 (pc + 4) = .ok (.ldc_w is, 3)) (d7 : decode M.2.1 (pc + 7) = .ok (.invokespecial ic, 3)) (d10 : decode M.2.1 (pc + 10) = .ok (.athrow, 1))
    (hcat : (S.map fun v => v.category).sum ≤ 8) (hX : X cls h) : PW G M d Ps (E0 G Q X) (1 + kc) (6 + ks) pc L S h := by
  intro p l e R s m args below meth c A H locs cells slots ls MC MS C hR hS hl hm
  obtain ⟨hx, hb, hml, hown, hts, hr, htab, hnm, hlocks, hst0, ⟨hf1, hf2⟩, hKk, hEe, hSt0, hA, hPs⟩ := C
  obtain ⟨t1, t2, t3, t4, t5, t6⟩ := ts
  obtain ⟨sa, hsa⟩ := hEe.2.1 _ _ _ t4
  have hex : ∀ x ∈ c.exceptionTable.toList, covers x (pc + 10) = false := by rw [htab, hh]; intro x hx9; cases hx9
  refine vx_throwSW (names := excN) (A := A) hx hb hst0 hown t1 excN_fit (hts _ t2) (hts _ t3) hsa (fun w hw => (t5 w hw).elim (fun q => hts w q) (fun q => nws_use hEe q)) t6 hSt0.1 hSt0.2.1 hS (by rw [hml]; exact hl.1) d0 d3 d4 d7 d10 hex
    (by show 2 + 3 < R.frames; omega) (by show _ + (13 * (2 + 1) + 43) ≤ R.locals; omega) (by omega) (by omega) hlocks (fun t _ hz hk => ⟨⟨h, hX, ?_⟩, ?_⟩) hS.2.2 (by omega) (by omega)
  · obtain ⟨⟨Ls, hL, hP, hD⟩, h0, hz0⟩ := hR
    exact ⟨⟨Ls, hL, hP.kept (fun k q hq => hk q.1 (hP k q hq).lt), hD⟩, h0, hz0.kept (hk _ hz0.lt)⟩
  · exact ⟨Nat.le_trans hS.1 hz, fun q h1 h2 => (hk q (Nat.lt_of_lt_of_le h1 hS.1)).trans (hS.2.1 q h1 h2)⟩
/-- what a callee threw goes on to the caller -/
theorem px_out {Y : String} (hh : M.2.2.2.2 = []) (hX : X Y h) : PX G M d Ps (E0 G Q X) kc ks pc L Y h := by
  intro p l e R s m args below meth c A H locs cells slots ls MC MS rest ce q C hR hS hl hm h1 h2 h3
  obtain ⟨hx, hb, hml, hown, hts, hr, htab, hnm, hlocks, hst0, ⟨hf1, hf2⟩, hKk, hEe, hSt0, hA, hPs⟩ := C
  exact vx_out (by rw [htab, hh]; intro x hx9; cases hx9) hlocks h1 h2 h3 (fun t ht _ => ⟨⟨h, hX, by rw [ht]; exact hR⟩, hS.F ht⟩) hS.2.2 (by omega) (by omega)
/-- a handler of this method takes it -/
theorem px_catch {Y nm : String} (pre suf : List (Nat × Nat × Nat × Nat)) (x : Nat × Nat × Nat × Nat) (hh : M.2.2.2.2 = pre ++ x :: suf) (hpass : ∀ z ∈ pre, covers ⟨z.1, z.2.1, z.2.2.1, z.2.2.2⟩ pc = false ∨ (z.2.2.2 ≠ 0 ∧ ∃ n9 : String, Cond.classLink M.1.cls z.2.2.2 n9 ∈ gws ∧ (Y, n9) ∈ ncs))
    (hcov : covers ⟨x.1, x.2.1, x.2.2.1, x.2.2.2⟩ pc = true) (h0 : x.2.2.2 ≠ 0) (hl9 : Cond.classLink M.1.cls x.2.2.2 nm ∈ gws) (hcast : Cond.castable Y nm ∈ nws) (k : ∀ q : Nat, PW G M d Ps E kc ks x.2.2.1 L [.ref q] h) : PX G M d Ps E kc ks pc L Y h := by
  intro p l e R s m args below meth c A H locs cells slots ls MC MS rest ce q C hR hS hl hm h1 h2 h3
  have C0 := C
  obtain ⟨hx, hb, hml, hown, hts, hr, htab, hnm, hlocks, hst0, ⟨hf1, hf2⟩, hKk, hEe, hSt0, hA, hPs⟩ := C
  refine vx_catch (E := Y) (name := nm) hown (tableOf pre) ⟨x.1, x.2.1, x.2.2.1, x.2.2.2⟩ (tableOf suf) (by rw [htab, hh]; simp [tableOf]) (fun z hz => ?_) hcov h0 (hts _ hl9) (nws_use hEe hcast) h1 h2 h3 (k q p l e R s m args below meth c A H locs cells slots ls MC MS C0 hR hS hl hm)
  obtain ⟨z0, hz0, rfl⟩ := List.mem_map.mp hz
  rcases hpass z0 hz0 with h | ⟨h, n9, h4, h5⟩
  · exact Or.inl h
  · exact Or.inr ⟨h, n9, hts _ h4, hEe.2.2.2 _ h5⟩
end PWC
end
section
/-! fields and arrays over the pure heap -/
def CLS (ci : Nat) (C : String) (T : u_T) (N : Nat) (ty : Nat → FieldType) : Prop := vwCl[ci]? = some (C, T, N) ∧ (∀ w ∈ u_ws C T N, w ∈ gws) ∧ (∀ k, k < N → parseFieldDescriptor (T k).2.2.1 = some (ty k)) ∧ ∀ a, a < N → ∀ b, b < N → a ≠ b → (T a).2.1 ≠ (T b).2.1
theorem dc_kept {G : hG} {A : Nat → Prop} {s : State} {H H1 : Heap} {locs locs1 : List Loc} (h0 : hSt G A s s.heap) (hA : ∀ q : Nat, s.heap.size ≤ q → A q) (hS : va_S A s.heap H locs) (hS1 : va_S A s.heap H1 locs1) (hz : va_at G.1 vwCl (G.2.2, hc G hE0) H) : va_at G.1 vwCl (G.2.2, hc G hE0) H1 := by
  have hlt : G.2.2 < s.heap.size := Nat.not_le.mp fun q => h0.2.2.2 (hA _ q)
  exact hz.kept ((hS1.2.1 _ hlt h0.2.2.2).trans (hS.2.1 _ hlt h0.2.2.2).symm)
theorem RA_uniq {U : State} {c1 c2 : ClassId} {ty : FieldType} (h1 : va_RA U c1 ty) (h2 : va_RA U c2 ty) : c1 = c2 := by
  cases ty with
  | object C =>
    obtain ⟨_, _, _, _, _, e1⟩ := h1
    obtain ⟨_, _, _, _, _, e2⟩ := h2
    exact Option.some.inj (e1.symm.trans e2)
  | _ => exact Option.some.inj (h1.symm.trans h2)
theorem hK_ty {G : hG} {U : State} (h : hK G U) (t0 : Nat) {t : FieldType} (ht : arrTys[t0]? = some t) : (hTys G)[t0]? = some (G.2.1 t, t) := by
  unfold hTys
  rw [List.getElem?_map, ht]
  rfl
theorem hK_new {G : hG} {U : State} {cA : ClassId} {t : FieldType} (h : hK G U) (h2 : va_K G.1 vwCl (hTys G ++ [(cA, t)]) U) (t0 : Nat) (ht : arrTys[t0]? = some t) : cA = G.2.1 t := by
  have e1 := (h.2 t0 _ (hK_ty h t0 ht)).2
  have e2 := (h2.2 (hTys G).length (cA, t) (by rw [List.getElem?_append_right (Nat.le_refl _), Nat.sub_self]; rfl)).2
  exact RA_uniq e2 e1
section PWH
variable {G : hG} {M : hMI} {d : Nat} {Ps : hAmb} {E : hEnd} {kc ks pc pc2 tgt : Nat} {L : List (Nat × Value)} {S : List Value} {h : hp}
variable {ci N index a k : Nat} {C ref : String} {T : u_T} {ty : Nat → FieldType} {fs : List Value} {v : Value}
theorem pw_get (hC : CLS ci C T N ty) (hk : k < N) (hs : (T k).1 = ref) (hlink : Cond.fieldLink M.1.cls index ref (T k).2.1 (T k).2.2.1 ∈ gws) (he : h a = some (.inr (ci, fs))) (hv : fs[k]? = some v) (hdg : decode M.2.1 pc = .ok (.getfield index, 3)) (hpc : pc + 3 = pc2)
    (kk : PW G M d Ps E kc ks pc2 L (v :: S) h) : PW G M d Ps E kc ks pc L (.ref a :: S) h := by
  subst hpc
  subst hs
  intro p l e R s m args below meth c A H locs cells slots ls MC MS C0 hR hS hl hm
  have C1 := C0
  obtain ⟨hx, hb, hml, hown, hts, hr, htab, hnm, hlocks, hst0, -, hKk, hEe, hSt0, hA, hPs⟩ := C0
  exact va_get (D := G.1) (Ts := gws) hx hb hts hC.2.1 hown hKk (hR.one he) 0 rfl hC.1 k hk (hts _ hlink) (fun x h9 => h9) hv hdg (kk p l e R s m args below meth c A H locs cells slots ls MC MS C1 hR hS hl hm)
theorem pw_getN {host : String} (hC : CLS ci C T N ty) (hk : k < N) (hs : (T k).1 = ref) (hlink : Cond.fieldLinkNest M.1.cls index ref (T k).2.1 (T k).2.2.1 host ∈ nws) (he : h a = some (.inr (ci, fs))) (hv : fs[k]? = some v) (hdg : decode M.2.1 pc = .ok (.getfield index, 3)) (hpc : pc + 3 = pc2)
    (kk : PW G M d Ps E kc ks pc2 L (v :: S) h) : PW G M d Ps E kc ks pc L (.ref a :: S) h := by
  subst hpc
  subst hs
  intro p l e R s m args below meth c A H locs cells slots ls MC MS C0 hR hS hl hm
  have C1 := C0
  obtain ⟨hx, hb, hml, hown, hts, hr, htab, hnm, hlocks, hst0, -, hKk, hEe, hSt0, hA, hPs⟩ := C0
  exact va_getN (D := G.1) (Ts := gws) hx hb hts hC.2.1 hown hKk (hR.one he) 0 rfl hC.1 k hk (nws_use hEe hlink) (fun x h9 => h9) hv hdg (kk p l e R s m args below meth c A H locs cells slots ls MC MS C1 hR hS hl hm)
theorem ne_dc {A : Nat → Prop} {H : Heap} (hR : RQ G A h H) {o : Nat × List Value} (he : h a = some (.inr o)) : a ≠ G.2.2 := by
  intro e
  rw [e] at he
  have := hR.2.1.symm.trans he
  simp [hE0] at this
theorem ne_dcA {A : Nat → Prop} {H : Heap} (hR : RQ G A h H) {t : FieldType} {n : Nat} {x : (Nat → Int32) ⊕ (Nat → Int64) ⊕ (Nat → UInt32) ⊕ (Nat → UInt64) ⊕ (Nat → Option Nat)} (he : h a = some (.inl (t, n, x))) (hn : 0 < n) : a ≠ G.2.2 := by
  intro e
  rw [e] at he
  have h9 := hR.2.1.symm.trans he
  have h8 : (0 : Nat) = n := by
    have h7 : hE0 = .inl (t, n, x) := Option.some.inj h9
    have h6 := Sum.inl.inj h7
    exact congrArg (fun q : FieldType × vp_A => q.2.1) h6
  omega
theorem pos_in {i : Int32} {n : Nat} (hin : vp_in i n) : 0 < n := by
  rcases Nat.eq_zero_or_pos n with q | q
  · subst q
    exact absurd (Or.inr (Nat.zero_le _)) hin
  · exact q
theorem pw_put (hC : CLS ci C T N ty) (hk : k < N) (hs : (T k).1 = ref) (hfin : (T k).2.2.2 = false) (hlink : Cond.fieldLink M.1.cls index ref (T k).2.1 (T k).2.2.1 ∈ gws) (he : h a = some (.inr (ci, fs))) (hl0 : k < fs.length) (hn : narrow (ty k) v = v) (hfit : fits (ty k) v = true) (hdg : decode M.2.1 pc = .ok (.putfield index, 3)) (hpc : pc + 3 = pc2)
    (kk : PW G M d Ps E kc ks pc2 L S (va_up h a (some (.inr (ci, fs.set k v))))) : PW G M d Ps E kc ks pc L (v :: .ref a :: S) h := by
  subst hpc
  subst hs
  intro p l e R s m args below meth c A H locs cells slots ls MC MS C0 hR hS hl hm
  have C1 := C0
  obtain ⟨hx, hb, hml, hown, hts, hr, htab, hnm, hlocks, hst0, -, hKk, hEe, hSt0, hA, hPs⟩ := C0
  obtain ⟨ws, k0, hP, hD, hk0, hup⟩ := hR.wr he (ne_dc hR he)
  exact va_put (D := G.1) (Ts := gws) hx hb hts hC.2.1 ty hC.2.2.1 hC.2.2.2 hown hKk hP hD hS k0 hk0 hC.1 k hk (hts _ hlink) (fun x h9 => h9) hfin (hC.2.2.1 k hk) hn hfit hl0 hdg
    (fun H1 locs1 p1 d1 s1 => kk p l e R s m args below meth c A H1 locs1 cells slots ls MC MS C1 (hup (.inr (ci, fs.set k v)) H1 p1 d1 (dc_kept hSt0 hA hS s1 hR.2.2)) s1 hl hm)
theorem pw_putN {host : String} (hC : CLS ci C T N ty) (hk : k < N) (hs : (T k).1 = ref) (hfin : (T k).2.2.2 = false) (hlink : Cond.fieldLinkNest M.1.cls index ref (T k).2.1 (T k).2.2.1 host ∈ nws) (he : h a = some (.inr (ci, fs))) (hl0 : k < fs.length) (hn : narrow (ty k) v = v) (hfit : fits (ty k) v = true) (hdg : decode M.2.1 pc = .ok (.putfield index, 3)) (hpc : pc + 3 = pc2)
    (kk : PW G M d Ps E kc ks pc2 L S (va_up h a (some (.inr (ci, fs.set k v))))) : PW G M d Ps E kc ks pc L (v :: .ref a :: S) h := by
  subst hpc
  subst hs
  intro p l e R s m args below meth c A H locs cells slots ls MC MS C0 hR hS hl hm
  have C1 := C0
  obtain ⟨hx, hb, hml, hown, hts, hr, htab, hnm, hlocks, hst0, -, hKk, hEe, hSt0, hA, hPs⟩ := C0
  obtain ⟨ws, k0, hP, hD, hk0, hup⟩ := hR.wr he (ne_dc hR he)
  exact va_putN (D := G.1) (Ts := gws) hx hb hts hC.2.1 ty hC.2.2.1 hC.2.2.2 hown hKk hP hD hS k0 hk0 hC.1 k hk (nws_use hEe hlink) (fun x h9 => h9) hfin (hC.2.2.1 k hk) hn hfit hl0 hdg
    (fun H1 locs1 p1 d1 s1 => kk p l e R s m args below meth c A H1 locs1 cells slots ls MC MS C1 (hup (.inr (ci, fs.set k v)) H1 p1 d1 (dc_kept hSt0 hA hS s1 hR.2.2)) s1 hl hm)
/-- a final field, in its own class's constructor -/
theorem pw_putF (hC : CLS ci C T N ty) (hk : k < N) (hs : (T k).1 = ref) (hfin : (T k).2.2.2 = true) (hi : M.1.name = "<init>") (hdecl : (T k).1 = M.1.cls) (hlink : Cond.fieldLink M.1.cls index ref (T k).2.1 (T k).2.2.1 ∈ gws) (he : h a = some (.inr (ci, fs))) (hl0 : k < fs.length) (hn : narrow (ty k) v = v) (hfit : fits (ty k) v = true) (hdg : decode M.2.1 pc = .ok (.putfield index, 3)) (hpc : pc + 3 = pc2)
    (kk : PW G M d Ps E kc ks pc2 L S (va_up h a (some (.inr (ci, fs.set k v))))) : PW G M d Ps E kc ks pc L (v :: .ref a :: S) h := by
  subst hpc
  subst hs
  intro p l e R s m args below meth c A H locs cells slots ls MC MS C0 hR hS hl hm
  have C1 := C0
  obtain ⟨hx, hb, hml, hown, hts, hr, htab, hnm, hlocks, hst0, -, hKk, hEe, hSt0, hA, hPs⟩ := C0
  obtain ⟨ws, k0, hP, hD, hk0, hup⟩ := hR.wr he (ne_dc hR he)
  exact va_putF (D := G.1) (Ts := gws) hx hb hts hC.2.1 ty hC.2.2.1 hC.2.2.2 hown hKk hP hD hS k0 hk0 hC.1 k hk (hts _ hlink) (fun x h9 => h9) hfin (hnm.trans hi) hdecl (hC.2.2.1 k hk) hn hfit hl0 hdg
    (fun H1 locs1 p1 d1 s1 => kk p l e R s m args below meth c A H1 locs1 cells slots ls MC MS C1 (hup (.inr (ci, fs.set k v)) H1 p1 d1 (dc_kept hSt0 hA hS s1 hR.2.2)) s1 hl hm)
theorem pw_new (hC : CLS ci C T N ty) (w1 : Cond.classLink M.1.cls index C ∈ gws) (w2 : Cond.instantiable C N ∈ gws) (w3 : Cond.initialized C ∈ gws) (hfs : ∀ j, j < N → defaultValue (ty j) = vp_V fs j) (hdg : decode M.2.1 pc = .ok (.new index, 3)) (hpc : pc + 3 = pc2)
    (kk : ∀ q : Nat, h q = none → q ≠ G.2.2 → PW G M d Ps E kc ks pc2 L (.ref q :: S) (va_up h q (some (.inr (ci, fs))))) : PW G M d Ps E (1 + kc) (N + ks) pc L S h := by
  subst hpc
  intro p l e R s m args below meth c A H locs cells slots ls MC MS C0 hR hS hl hm
  have C1 := C0
  obtain ⟨hx, hb, hml, hown, hts, hr, htab, hnm, hlocks, hst0, -, hKk, hEe, hSt0, hA, hPs⟩ := C0
  obtain ⟨ws, hP, hD, hup⟩ := hR.new hSt0.2.2.2
  refine va_new (D := G.1) (Ts := gws) hx hb hts hC.2.1 ty hC.2.2.1 hown (hts _ w1) (hts _ w2) (hts _ w3) hKk hP hD hS hA hC.1 hfs (by omega) (by omega) hdg (fun q H1 p1 d1 s1 => ?_)
  obtain ⟨e1, e2, e3⟩ := hup q (.inr (ci, fs)) H1 p1 d1 (dc_kept hSt0 hA hS s1 hR.2.2)
  exact kk q e1 e2 p l e R s m args below meth c A H1 locs _ _ ls MC MS C1 e3 s1 hl ⟨by omega, by omega, hm.2.2.1, hm.2.2.2⟩
theorem pw_newarr {atype : ArrayType} {t : FieldType} {n : Int32} {Nn : Nat} {a0 : vp_A} (t0 : Nat) (ht : arrTys[t0]? = some t) (hat : newarray.typeOf atype = t) (w1 : Cond.arrayClass (newarray.typeOf atype) ∈ gws) (ha : ∀ cA : ClassId, vp_cell cA a0 = arrV cA Nn (fun _ => defaultValue t)) (hn : ¬ n < 0) (hN : n.toNatClampNeg = Nn) (hby : Nn * componentBytes t ≤ 536870912) (hdg : decode M.2.1 pc = .ok (.newarray atype, 2)) (hpc : pc + 2 = pc2)
    (kk : ∀ q : Nat, h q = none → q ≠ G.2.2 → PW G M d Ps E kc ks pc2 L (.ref q :: S) (va_up h q (some (.inl (t, a0))))) : PW G M d Ps E (1 + kc) (Nn + ks) pc L (.int n :: S) h := by
  subst hpc
  intro p l e R s m args below meth c A H locs cells slots ls MC MS C0 hR hS hl hm
  have C1 := C0
  obtain ⟨hx, hb, hml, hown, hts, hr, htab, hnm, hlocks, hst0, -, hKk, hEe, hSt0, hA, hPs⟩ := C0
  obtain ⟨ws, hP, hD, hup⟩ := hR.new hSt0.2.2.2
  refine va_newa (D := G.1) (atype := atype) hx hb (hts _ w1) hat hKk hP hD hS hA ha hn hN hby (by omega) (by omega) hdg (fun q cA H1 hK1 p1 d1 s1 => ?_)
  have hcA := hK_new hKk hK1 t0 ht
  subst hcA
  obtain ⟨e1, e2, e3⟩ := hup q (.inl (t, a0)) H1 p1 d1 (dc_kept hSt0 hA hS s1 hR.2.2)
  exact kk q e1 e2 p l e R s m args below meth c A H1 locs _ _ ls MC MS C1 e3 s1 hl ⟨by omega, by omega, hm.2.2.1, hm.2.2.2⟩
theorem pw_anewarr {D : String} {n : Int32} {Nn : Nat} (t0 : Nat) (ht : arrTys[t0]? = some (.object D)) (hao : ∀ U, hEnv U → va_AO D U) (w1 : Cond.classLink M.1.cls index D ∈ gws) (hn : ¬ n < 0) (hN : n.toNatClampNeg = Nn) (hby : Nn * 4 ≤ 536870912) (hdg : decode M.2.1 pc = .ok (.anewarray index, 3)) (hpc : pc + 3 = pc2)
    (kk : ∀ q : Nat, h q = none → q ≠ G.2.2 → PW G M d Ps E kc ks pc2 L (.ref q :: S) (va_up h q (some (aR (.object D) Nn (fun _ => none))))) : PW G M d Ps E (1 + kc) (Nn + ks) pc L (.int n :: S) h := by
  subst hpc
  intro p l e R s m args below meth c A H locs cells slots ls MC MS C0 hR hS hl hm
  have C1 := C0
  obtain ⟨hx, hb, hml, hown, hts, hr, htab, hnm, hlocks, hst0, -, hKk, hEe, hSt0, hA, hPs⟩ := C0
  obtain ⟨ws, hP, hD, hup⟩ := hR.new hSt0.2.2.2
  refine va_newq (D := G.1) hx hb hown (hts _ w1) (hao s hEe) hKk hP hD hS hA hn hN hby (by omega) (by omega) hdg (fun q cA H1 hK1 p1 d1 s1 => ?_)
  have hcA := hK_new hKk hK1 t0 ht
  subst hcA
  obtain ⟨e1, e2, e3⟩ := hup q (aR (.object D) Nn (fun _ => none)) H1 p1 d1 (dc_kept hSt0 hA hS s1 hR.2.2)
  exact kk q e1 e2 p l e R s m args below meth c A H1 locs _ _ ls MC MS C1 e3 s1 hl ⟨by omega, by omega, hm.2.2.1, hm.2.2.2⟩
theorem pw_alen {t : FieldType} {x : vp_A} {z : Int32} (t0 : Nat) (ht : arrTys[t0]? = some t) (he : h a = some (.inl (t, x))) (hz : Int32.ofNat x.1 = z) (hdg : decode M.2.1 pc = .ok (.arraylength, 1)) (hpc : pc + 1 = pc2) (kk : PW G M d Ps E kc ks pc2 L (.int z :: S) h) : PW G M d Ps E kc ks pc L (.ref a :: S) h := by
  subst hpc
  intro p l e R s m args below meth c A H locs cells slots ls MC MS C0 hR hS hl hm
  have C1 := C0
  obtain ⟨hx, hb, hml, hown, hts, hr, htab, hnm, hlocks, hst0, -, hKk, hEe, hSt0, hA, hPs⟩ := C0
  exact va_alen (D := G.1) hx hb hKk (hR.one he) 0 t0 rfl (hK_ty hKk t0 ht) hz hdg (kk p l e R s m args below meth c A H locs cells slots ls MC MS C1 hR hS hl hm)
theorem pw_iald {n : Nat} {f : Nat → Int32} {i : Int32} (he : h a = some (aI n f)) (hin : vp_in i n) (hdg : decode M.2.1 pc = .ok (.iaload, 1)) (hpc : pc + 1 = pc2) (kk : PW G M d Ps E kc ks pc2 L (.int (f i.toNatClampNeg) :: S) h) : PW G M d Ps E kc ks pc L (.int i :: .ref a :: S) h := by
  subst hpc
  intro p l e R s m args below meth c A H locs cells slots ls MC MS C0 hR hS hl hm
  have C1 := C0
  obtain ⟨hx, hb, hml, hown, hts, hr, htab, hnm, hlocks, hst0, -, hKk, hEe, hSt0, hA, hPs⟩ := C0
  exact va_iald (D := G.1) hx hb hKk (hR.one he) 0 0 rfl (hK_ty hKk 0 rfl) hin hdg (kk p l e R s m args below meth c A H locs cells slots ls MC MS C1 hR hS hl hm)
theorem pw_zald {n : Nat} {f : Nat → Int32} {i : Int32} (he : h a = some (aZ n f)) (hin : vp_in i n) (hdg : decode M.2.1 pc = .ok (.baload, 1)) (hpc : pc + 1 = pc2) (kk : PW G M d Ps E kc ks pc2 L (.int (f i.toNatClampNeg) :: S) h) : PW G M d Ps E kc ks pc L (.int i :: .ref a :: S) h := by
  subst hpc
  intro p l e R s m args below meth c A H locs cells slots ls MC MS C0 hR hS hl hm
  have C1 := C0
  obtain ⟨hx, hb, hml, hown, hts, hr, htab, hnm, hlocks, hst0, -, hKk, hEe, hSt0, hA, hPs⟩ := C0
  exact va_zald (D := G.1) hx hb hKk (hR.one he) 0 1 rfl (hK_ty hKk 1 rfl) hin hdg (kk p l e R s m args below meth c A H locs cells slots ls MC MS C1 hR hS hl hm)
theorem pw_lald {n : Nat} {f : Nat → Int64} {i : Int32} (he : h a = some (aL n f)) (hin : vp_in i n) (hdg : decode M.2.1 pc = .ok (.laload, 1)) (hpc : pc + 1 = pc2) (kk : PW G M d Ps E kc ks pc2 L (.long (f i.toNatClampNeg) :: S) h) : PW G M d Ps E kc ks pc L (.int i :: .ref a :: S) h := by
  subst hpc
  intro p l e R s m args below meth c A H locs cells slots ls MC MS C0 hR hS hl hm
  have C1 := C0
  obtain ⟨hx, hb, hml, hown, hts, hr, htab, hnm, hlocks, hst0, -, hKk, hEe, hSt0, hA, hPs⟩ := C0
  exact va_lald (D := G.1) hx hb hKk (hR.one he) 0 2 rfl (hK_ty hKk 2 rfl) hin hdg (kk p l e R s m args below meth c A H locs cells slots ls MC MS C1 hR hS hl hm)
theorem pw_dald {n : Nat} {f : Nat → UInt64} {i : Int32} (he : h a = some (aD n f)) (hin : vp_in i n) (hdg : decode M.2.1 pc = .ok (.daload, 1)) (hpc : pc + 1 = pc2) (kk : PW G M d Ps E kc ks pc2 L (.double (f i.toNatClampNeg) :: S) h) : PW G M d Ps E kc ks pc L (.int i :: .ref a :: S) h := by
  subst hpc
  intro p l e R s m args below meth c A H locs cells slots ls MC MS C0 hR hS hl hm
  have C1 := C0
  obtain ⟨hx, hb, hml, hown, hts, hr, htab, hnm, hlocks, hst0, -, hKk, hEe, hSt0, hA, hPs⟩ := C0
  exact va_dald (D := G.1) hx hb hKk (hR.one he) 0 3 rfl (hK_ty hKk 3 rfl) hin hdg (kk p l e R s m args below meth c A H locs cells slots ls MC MS C1 hR hS hl hm)
theorem pw_aald {t : FieldType} {n : Nat} {f : Nat → Option Nat} {i : Int32} (t0 : Nat) (ht : arrTys[t0]? = some t) (hrt : t.isReference = true) (he : h a = some (aR t n f)) (hin : vp_in i n) (hdg : decode M.2.1 pc = .ok (.aaload, 1)) (hpc : pc + 1 = pc2) (kk : PW G M d Ps E kc ks pc2 L (va_rf (f i.toNatClampNeg) :: S) h) : PW G M d Ps E kc ks pc L (.int i :: .ref a :: S) h := by
  subst hpc
  intro p l e R s m args below meth c A H locs cells slots ls MC MS C0 hR hS hl hm
  have C1 := C0
  obtain ⟨hx, hb, hml, hown, hts, hr, htab, hnm, hlocks, hst0, -, hKk, hEe, hSt0, hA, hPs⟩ := C0
  have hlt : i.toNatClampNeg < n := Nat.not_le.mp fun q => hin (Or.inr q)
  exact W.aald (v := va_rf (f i.toNatClampNeg)) (ty := t) hx hb (hR.one he 0 _ rfl) ((hKk.2 t0 _ (hK_ty hKk t0 ht)).1 n (fun j => va_rf (f j))) hrt (fun q => by cases q) (by show ¬ (i < 0 ∨ (arrV _ _ _).slots.size ≤ _); rw [arrV_size]; exact hin) (by show (arrV _ _ _).slots[_]? = _; rw [arrV_read _ _ hlt]) rfl rfl hdg (kk p l e R s m args below meth c A H locs cells slots ls MC MS C1 hR hS hl hm)
theorem pw_iast {n : Nat} {f : Nat → Int32} {i x : Int32} (he : h a = some (aI n f)) (hin : vp_in i n) (hdg : decode M.2.1 pc = .ok (.iastore, 1)) (hpc : pc + 1 = pc2) (kk : PW G M d Ps E kc ks pc2 L S (va_up h a (some (aI n (upd f i.toNatClampNeg x))))) : PW G M d Ps E kc ks pc L (.int x :: .int i :: .ref a :: S) h := by
  subst hpc
  intro p l e R s m args below meth c A H locs cells slots ls MC MS C0 hR hS hl hm
  have C1 := C0
  obtain ⟨hx, hb, hml, hown, hts, hr, htab, hnm, hlocks, hst0, -, hKk, hEe, hSt0, hA, hPs⟩ := C0
  obtain ⟨ws, k0, hP, hD, hk0, hup⟩ := hR.wr he (ne_dcA hR he (pos_in hin))
  exact va_iast (D := G.1) hx hb hKk hP hD hS k0 0 hk0 (hK_ty hKk 0 rfl) hin hdg
    (fun H1 locs1 p1 d1 s1 => kk p l e R s m args below meth c A H1 locs1 cells slots ls MC MS C1 (hup (aI n (upd f i.toNatClampNeg x)) H1 p1 d1 (dc_kept hSt0 hA hS s1 hR.2.2)) s1 hl hm)
theorem pw_zast {n : Nat} {f : Nat → Int32} {i x : Int32} (he : h a = some (aZ n f)) (hin : vp_in i n) (hx01 : vp_nar .boolean x = x) (hdg : decode M.2.1 pc = .ok (.bastore, 1)) (hpc : pc + 1 = pc2) (kk : PW G M d Ps E kc ks pc2 L S (va_up h a (some (aZ n (upd f i.toNatClampNeg x))))) : PW G M d Ps E kc ks pc L (.int x :: .int i :: .ref a :: S) h := by
  subst hpc
  intro p l e R s m args below meth c A H locs cells slots ls MC MS C0 hR hS hl hm
  have C1 := C0
  obtain ⟨hx, hb, hml, hown, hts, hr, htab, hnm, hlocks, hst0, -, hKk, hEe, hSt0, hA, hPs⟩ := C0
  obtain ⟨ws, k0, hP, hD, hk0, hup⟩ := hR.wr he (ne_dcA hR he (pos_in hin))
  refine va_zast (D := G.1) hx hb hKk hP hD hS k0 1 hk0 (hK_ty hKk 1 rfl) hin hdg (fun H1 locs1 p1 d1 s1 => ?_)
  rw [hx01] at p1 d1
  exact kk p l e R s m args below meth c A H1 locs1 cells slots ls MC MS C1 (hup (aZ n (upd f i.toNatClampNeg x)) H1 p1 d1 (dc_kept hSt0 hA hS s1 hR.2.2)) s1 hl hm
theorem pw_last {n : Nat} {f : Nat → Int64} {i : Int32} {x : Int64} (he : h a = some (aL n f)) (hin : vp_in i n) (hdg : decode M.2.1 pc = .ok (.lastore, 1)) (hpc : pc + 1 = pc2) (kk : PW G M d Ps E kc ks pc2 L S (va_up h a (some (aL n (vp_updL f i.toNatClampNeg x))))) : PW G M d Ps E kc ks pc L (.long x :: .int i :: .ref a :: S) h := by
  subst hpc
  intro p l e R s m args below meth c A H locs cells slots ls MC MS C0 hR hS hl hm
  have C1 := C0
  obtain ⟨hx, hb, hml, hown, hts, hr, htab, hnm, hlocks, hst0, -, hKk, hEe, hSt0, hA, hPs⟩ := C0
  obtain ⟨ws, k0, hP, hD, hk0, hup⟩ := hR.wr he (ne_dcA hR he (pos_in hin))
  exact va_last (D := G.1) hx hb hKk hP hD hS k0 2 hk0 (hK_ty hKk 2 rfl) hin hdg
    (fun H1 locs1 p1 d1 s1 => kk p l e R s m args below meth c A H1 locs1 cells slots ls MC MS C1 (hup (aL n (vp_updL f i.toNatClampNeg x)) H1 p1 d1 (dc_kept hSt0 hA hS s1 hR.2.2)) s1 hl hm)
theorem pw_dast {n : Nat} {f : Nat → UInt64} {i : Int32} {x : UInt64} (he : h a = some (aD n f)) (hin : vp_in i n) (hdg : decode M.2.1 pc = .ok (.dastore, 1)) (hpc : pc + 1 = pc2) (kk : PW G M d Ps E kc ks pc2 L S (va_up h a (some (aD n (vf_upd f i.toNatClampNeg x))))) : PW G M d Ps E kc ks pc L (.double x :: .int i :: .ref a :: S) h := by
  subst hpc
  intro p l e R s m args below meth c A H locs cells slots ls MC MS C0 hR hS hl hm
  have C1 := C0
  obtain ⟨hx, hb, hml, hown, hts, hr, htab, hnm, hlocks, hst0, -, hKk, hEe, hSt0, hA, hPs⟩ := C0
  obtain ⟨ws, k0, hP, hD, hk0, hup⟩ := hR.wr he (ne_dcA hR he (pos_in hin))
  exact va_dast (D := G.1) hx hb hKk hP hD hS k0 3 hk0 (hK_ty hKk 3 rfl) hin hdg
    (fun H1 locs1 p1 d1 s1 => kk p l e R s m args below meth c A H1 locs1 cells slots ls MC MS C1 (hup (aD n (vf_upd f i.toNatClampNeg x)) H1 p1 d1 (dc_kept hSt0 hA hS s1 hR.2.2)) s1 hl hm)
/-- null into an array of references -/
theorem pw_aastN {D : String} {n : Nat} {f : Nat → Option Nat} {i : Int32} (t0 : Nat) (ht : arrTys[t0]? = some (.object D)) (he : h a = some (aR (.object D) n f)) (hin : vp_in i n) (hdg : decode M.2.1 pc = .ok (.aastore, 1)) (hpc : pc + 1 = pc2) (kk : PW G M d Ps E kc ks pc2 L S (va_up h a (some (aR (.object D) n (va_up f i.toNatClampNeg none))))) : PW G M d Ps E kc ks pc L (.null :: .int i :: .ref a :: S) h := by
  subst hpc
  intro p l e R s m args below meth c A H locs cells slots ls MC MS C0 hR hS hl hm
  have C1 := C0
  obtain ⟨hx, hb, hml, hown, hts, hr, htab, hnm, hlocks, hst0, -, hKk, hEe, hSt0, hA, hPs⟩ := C0
  obtain ⟨ws, k0, hP, hD, hk0, hup⟩ := hR.wr he (ne_dcA hR he (pos_in hin))
  exact va_astqN (D := G.1) hx hb hKk hP hD hS k0 t0 hk0 (hK_ty hKk t0 ht) hin hdg
    (fun H1 locs1 p1 d1 s1 => kk p l e R s m args below meth c A H1 locs1 cells slots ls MC MS C1 (hup (aR (.object D) n (va_up f i.toNatClampNeg none)) H1 p1 d1 (dc_kept hSt0 hA hS s1 hR.2.2)) s1 hl hm)
/-- an object into an array of a class that it can be cast to -/
theorem pw_aastO {D C2 : String} {n b cj : Nat} {T2 : u_T} {N2 : Nat} {gs : List Value} {f : Nat → Option Nat} {i : Int32} (t0 : Nat) (ht : arrTys[t0]? = some (.object D)) (hcl : vwCl[cj]? = some (C2, T2, N2)) (hca : Cond.castable C2 D ∈ nws) (he : h a = some (aR (.object D) n f)) (hbo : h b = some (.inr (cj, gs))) (hin : vp_in i n) (hdg : decode M.2.1 pc = .ok (.aastore, 1)) (hpc : pc + 1 = pc2) (kk : PW G M d Ps E kc ks pc2 L S (va_up h a (some (aR (.object D) n (va_up f i.toNatClampNeg (some b)))))) : PW G M d Ps E kc ks pc L (.ref b :: .int i :: .ref a :: S) h := by
  subst hpc
  intro p l e R s m args below meth c A H locs cells slots ls MC MS C0 hR hS hl hm
  have C1 := C0
  obtain ⟨hx, hb, hml, hown, hts, hr, htab, hnm, hlocks, hst0, -, hKk, hEe, hSt0, hA, hPs⟩ := C0
  have hne := ne_dcA hR he (pos_in hin)
  obtain ⟨ws, k0, hP, hD, hk0, hup⟩ := hR.wr he hne
  have hb0 := hR.at hbo
  obtain ⟨r9, hr9, cell9, hcb, hcc, hcv, -⟩ := hb0
  cases hr9.symm.trans hcl
  refine va_astqM (D := G.1) (E := D) hx hb hKk hP hD hS k0 t0 hk0 (hK_ty hKk t0 ht) ⟨cell9, hcb, by rw [hcv]; rfl, ?_, ?_⟩ hin hdg
    (fun H1 locs1 p1 d1 s1 => kk p l e R s m args below meth c A H1 locs1 cells slots ls MC MS C1 (hup (aR (.object D) n (va_up f i.toNatClampNeg (some b))) H1 p1 d1 (dc_kept hSt0 hA hS s1 hR.2.2)) s1 hl hm)
  · obtain ⟨-, -, kC, hkC, -⟩ := hKk.1 cj _ hcl
    exact ⟨kC, by rw [hcc]; exact hkC⟩
  · intro comp hcomp
    obtain ⟨c3, c4, hc3, hc4, hasg⟩ := Cond.castable_spec (nws_use (A := args) hEe hca)
    have hfc := (hKk.1 cj _ hcl).2.1
    cases Option.some.inj (hc4.symm.trans hcomp)
    cases Option.some.inj (hc3.symm.trans hfc)
    rw [hcc]
    exact hasg
/-- a cast of an object of a known class -/
theorem pw_cast {nm C2 : String} {cj N2 : Nat} {T2 : u_T} {gs : List Value} (hcl : vwCl[cj]? = some (C2, T2, N2)) (w1 : Cond.classLink M.1.cls index nm ∈ gws) (hca : Cond.castable C2 nm ∈ nws) (he : h a = some (.inr (cj, gs))) (hdg : decode M.2.1 pc = .ok (.checkcast index, 3)) (hpc : pc + 3 = pc2) (kk : PW G M d Ps E kc ks pc2 L (.ref a :: S) h) : PW G M d Ps E kc ks pc L (.ref a :: S) h := by
  subst hpc
  intro p l e R s m args below meth c A H locs cells slots ls MC MS C0 hR hS hl hm
  have C1 := C0
  obtain ⟨hx, hb, hml, hown, hts, hr, htab, hnm, hlocks, hst0, -, hKk, hEe, hSt0, hA, hPs⟩ := C0
  exact va_castY (C := C2) hx hb hown (hts _ w1) (hEe.1 _ hca) (va_recv (q0 := 0) hKk (hR.one he) hcl rfl) hdg (kk p l e R s m args below meth c A H locs cells slots ls MC MS C1 hR hS hl hm)
/-- the lists' shared empty array -/
theorem pw_getEmpty (w1 : Cond.fieldLink M.1.cls index "java/util/ArrayList" "DEFAULTCAPACITY_EMPTY_ELEMENTDATA" "[Ljava/lang/Object;" ∈ gws) (hdg : decode M.2.1 pc = .ok (.getstatic index, 3)) (hpc : pc + 3 = pc2) (kk : PW G M d Ps E kc ks pc2 L (.ref G.2.2 :: S) h) : PW G M d Ps E kc ks pc L S h := by
  subst hpc
  intro p l e R s m args below meth c A H locs cells slots ls MC MS C0 hR hS hl hm
  have C1 := C0
  obtain ⟨hx, hb, hml, hown, hts, hr, htab, hnm, hlocks, hst0, -, hKk, hEe, hSt0, hA, hPs⟩ := C0
  exact va_gets hx hb hSt0.2.2.1 hS hown (hts _ w1) (fun x h9 => h9) hdg (kk p l e R s m args below meth c A H locs cells slots ls MC MS C1 hR hS hl hm)
end PWH
end
