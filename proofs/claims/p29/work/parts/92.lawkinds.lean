/-! one step of the law: what it does by its kind -/
/-- what is to follow: the step's end, after a success or a refusal -/
def KK (G : hG) (d sc Ln : Nat) (xs : Nat → Int32) (A : aT) (σ : sT) (N c m : Nat) (iw : Int32) (bef : Int64) (kc ks : Nat) : Prop :=
  (∀ (v : Int32) (h2 : hp) (A' : aT) (σ' : sT) (ofr' : Nat → Nat), ¬ v < 0 → A' 0 0 = A 0 0 → A' 60 0 = A 60 0 → WS G h2 A' σ' → J σ' ofr' (N + 9999) → JD σ' ofr' (nrl σ') → PW G ML_law d (psX sc Ln xs) EL (kc) (ks) 723 [(0, Value.ref sc), (1, Value.ref (A' 0 0)), (2, Value.ref (A' 60 0)), (3, Value.int (nI (nrl σ'))), (4, Value.int (nI c)), (5, Value.int (nI m)), (10, Value.int iw), (11, Value.long bef), (13, Value.int v)] [] h2) ∧
  (∀ (v : Int32) (h2 : hp), v < -1000 → WS G h2 A σ → PW G ML_law d (psX sc Ln xs) EL (kc) (ks) 723 [(0, Value.ref sc), (1, Value.ref (A 0 0)), (2, Value.ref (A 60 0)), (3, Value.int (nI (nrl σ))), (4, Value.int (nI c)), (5, Value.int (nI m)), (10, Value.int iw), (11, Value.long bef), (13, Value.int v)] [] h2)
set_option maxHeartbeats 8000000 in
set_option maxRecDepth 100000 in
theorem lw_k145 {G : hG} {sc Ln d : Nat} {xs : Nat → Int32} (hd : 20 ≤ d) {kc ks : Nat} {h : hp} {A : aT} {σ : sT} {ofr : Nat → Nat} {N : Nat} (HW : WS G h A σ) (HJ : J σ ofr N) (HD : JD σ ofr (nrl σ)) {c m w K : Nat} {nm iw kd : Int32} {bef : Int64}  (hK : KK G d sc Ln xs A σ N c m iw bef kc ks) : PW G ML_law d (psX sc Ln xs) EL (kc + 150) (ks + 900) 145 [(0, Value.ref sc), (1, Value.ref (A 0 0)), (2, Value.ref (A 60 0)), (3, Value.int (nI (nrl σ))), (4, Value.int (nI c)), (5, Value.int (nI m)), (7, Value.int (nI w)), (8, Value.int (nI K)), (9, Value.int nm), (10, Value.int iw), (11, Value.long bef), (13, Value.int 0), (14, Value.int kd)] [] h := by
  have np6 : npk σ ≤ 6 := HW.n6
  have nr20 : nrl σ ≤ 20 := HW.n20
  have nt8 : nts σ ≤ 8 := HW.n8
  refine pw_aload_n (pc2 := 146) dL_law_145 rfl rfl 1 rfl (by first | exact rf_ref _ | exact rf_opt _ | exact rf_nul) ?_
  refine pw_iload (pc2 := 148) dL_law_146 rfl 6 rfl ?_
  refine pw_iconst (pc2 := 149) (v := 3) dL_law_148 rfl (by decide) ?_
  refine pw_irem (pc2 := 150) dL_law_149 rfl (by decide) ?_
  refine PW.widen (kc' := kc + 132 + 17) (ks' := ks + 792 + 108) (by omega) (by omega) ?_
  refine pw_callS (kc := kc + 132) (ks := ks + 792) (pc2 := 153) (x_pack HW HJ HD ((nI w) - (nI w) / 3 * 3)) cs_L_179 rfl dL_law_150 rfl (by omega) rfl (by first | decide | simp [cat_rf, Value.category]) (fun r9 h9 q9 => ?_) (fun Y h9 q9 => q9.elim)
  obtain ⟨v9, rfl, ⟨hv, A', σ', ofr', ⟨e0, e60⟩, K9, J9, ⟨D9, en⟩⟩ | ⟨hv, Wf, -⟩⟩ := q9
  · rw [← e0, ← e60, ← en]
    refine pw_istore (pc2 := 155) (L2 := [(13, Value.int v9), (0, Value.ref sc), (1, Value.ref (A' 0 0)), (2, Value.ref (A' 60 0)), (3, Value.int (nI (nrl σ'))), (4, Value.int (nI c)), (5, Value.int (nI m)), (7, Value.int (nI w)), (8, Value.int (nI K)), (9, Value.int nm), (10, Value.int iw), (11, Value.long bef), (14, Value.int kd)]) dL_law_153 rfl (by decide) rfl ?_
    refine pw_goto (tgt := 723) dL_law_155 (by decide) ?_
    refine PW.sub (L2 := [(0, Value.ref sc), (1, Value.ref (A' 0 0)), (2, Value.ref (A' 60 0)), (3, Value.int (nI (nrl σ'))), (4, Value.int (nI c)), (5, Value.int (nI m)), (10, Value.int iw), (11, Value.long bef), (13, Value.int v9)]) [1, 2, 3, 4, 5, 6, 10, 11, 0] rfl ?_
    refine PW.widen (kc' := kc) (ks' := ks) (by omega) (by omega) ?_
    exact hK.1 _ _ _ _ _ hv e0 e60 K9.ws J9 D9
  · skip
    refine pw_istore (pc2 := 155) (L2 := [(13, Value.int v9), (0, Value.ref sc), (1, Value.ref (A 0 0)), (2, Value.ref (A 60 0)), (3, Value.int (nI (nrl σ))), (4, Value.int (nI c)), (5, Value.int (nI m)), (7, Value.int (nI w)), (8, Value.int (nI K)), (9, Value.int nm), (10, Value.int iw), (11, Value.long bef), (14, Value.int kd)]) dL_law_153 rfl (by decide) rfl ?_
    refine pw_goto (tgt := 723) dL_law_155 (by decide) ?_
    refine PW.sub (L2 := [(0, Value.ref sc), (1, Value.ref (A 0 0)), (2, Value.ref (A 60 0)), (3, Value.int (nI (nrl σ))), (4, Value.int (nI c)), (5, Value.int (nI m)), (10, Value.int iw), (11, Value.long bef), (13, Value.int v9)]) [1, 2, 3, 4, 5, 6, 10, 11, 0] rfl ?_
    refine PW.widen (kc' := kc) (ks' := ks) (by omega) (by omega) ?_
    exact hK.2 _ _ hv Wf
set_option maxHeartbeats 8000000 in
set_option maxRecDepth 100000 in
theorem lw_k164 {G : hG} {sc Ln d : Nat} {xs : Nat → Int32} (hd : 20 ≤ d) {kc ks : Nat} {h : hp} {A : aT} {σ : sT} {ofr : Nat → Nat} {N : Nat} (HW : WS G h A σ) (HJ : J σ ofr N) (HD : JD σ ofr (nrl σ)) {c m w K : Nat} {nm iw kd : Int32} {bef : Int64}  (hK : KK G d sc Ln xs A σ N c m iw bef kc ks) : PW G ML_law d (psX sc Ln xs) EL (kc + 150) (ks + 900) 164 [(0, Value.ref sc), (1, Value.ref (A 0 0)), (2, Value.ref (A 60 0)), (3, Value.int (nI (nrl σ))), (4, Value.int (nI c)), (5, Value.int (nI m)), (7, Value.int (nI w)), (8, Value.int (nI K)), (9, Value.int nm), (10, Value.int iw), (11, Value.long bef), (13, Value.int 0), (14, Value.int kd)] [] h := by
  have np6 : npk σ ≤ 6 := HW.n6
  have nr20 : nrl σ ≤ 20 := HW.n20
  have nt8 : nts σ ≤ 8 := HW.n8
  refine pw_aload_n (pc2 := 165) dL_law_164 rfl rfl 1 rfl (by first | exact rf_ref _ | exact rf_opt _ | exact rf_nul) ?_
  refine pw_iload (pc2 := 167) dL_law_165 rfl 8 rfl ?_
  refine pw_iload (pc2 := 169) dL_law_167 rfl 6 rfl ?_
  refine pw_bipush (pc2 := 171) (v := 7) dL_law_169 rfl (by decide) ?_
  refine pw_idiv (pc2 := 172) dL_law_171 rfl (by decide) ?_
  refine pw_iconst (pc2 := 173) (v := 3) dL_law_172 rfl (by decide) ?_
  refine pw_irem (pc2 := 174) dL_law_173 rfl (by decide) ?_
  refine pw_iload (pc2 := 176) dL_law_174 rfl 6 rfl ?_
  refine pw_bipush (pc2 := 178) (v := 21) dL_law_176 rfl (by decide) ?_
  refine pw_idiv (pc2 := 179) dL_law_178 rfl (by decide) ?_
  refine pw_iconst (pc2 := 180) (v := 4) dL_law_179 rfl (by decide) ?_
  refine pw_irem (pc2 := 181) dL_law_180 rfl (by decide) ?_
  refine PW.widen (kc' := kc + 148 + 2) (ks' := ks + 888 + 12) (by omega) (by omega) ?_
  refine pw_callS (kc := kc + 148) (ks := ks + 888) (pc2 := 184) (x_source HW HJ HD nm (((nI w) / 7) - ((nI w) / 7) / 3 * 3) (((nI w) / 21) - ((nI w) / 21) / 4 * 4)) cs_L_183 rfl dL_law_181 rfl (by omega) rfl (by first | decide | simp [cat_rf, Value.category]) (fun r9 h9 q9 => ?_) (fun Y h9 q9 => q9.elim)
  obtain ⟨v9, rfl, ⟨hv, A', σ', ofr', ⟨e0, e60⟩, K9, J9, ⟨D9, en⟩⟩ | ⟨hv, Wf, -⟩⟩ := q9
  · rw [← e0, ← e60, ← en]
    refine pw_istore (pc2 := 186) (L2 := [(13, Value.int v9), (0, Value.ref sc), (1, Value.ref (A' 0 0)), (2, Value.ref (A' 60 0)), (3, Value.int (nI (nrl σ'))), (4, Value.int (nI c)), (5, Value.int (nI m)), (7, Value.int (nI w)), (8, Value.int (nI K)), (9, Value.int nm), (10, Value.int iw), (11, Value.long bef), (14, Value.int kd)]) dL_law_184 rfl (by decide) rfl ?_
    refine pw_goto (tgt := 723) dL_law_186 (by decide) ?_
    refine PW.sub (L2 := [(0, Value.ref sc), (1, Value.ref (A' 0 0)), (2, Value.ref (A' 60 0)), (3, Value.int (nI (nrl σ'))), (4, Value.int (nI c)), (5, Value.int (nI m)), (10, Value.int iw), (11, Value.long bef), (13, Value.int v9)]) [1, 2, 3, 4, 5, 6, 10, 11, 0] rfl ?_
    refine PW.widen (kc' := kc) (ks' := ks) (by omega) (by omega) ?_
    exact hK.1 _ _ _ _ _ hv e0 e60 K9.ws J9 D9
  · skip
    refine pw_istore (pc2 := 186) (L2 := [(13, Value.int v9), (0, Value.ref sc), (1, Value.ref (A 0 0)), (2, Value.ref (A 60 0)), (3, Value.int (nI (nrl σ))), (4, Value.int (nI c)), (5, Value.int (nI m)), (7, Value.int (nI w)), (8, Value.int (nI K)), (9, Value.int nm), (10, Value.int iw), (11, Value.long bef), (14, Value.int kd)]) dL_law_184 rfl (by decide) rfl ?_
    refine pw_goto (tgt := 723) dL_law_186 (by decide) ?_
    refine PW.sub (L2 := [(0, Value.ref sc), (1, Value.ref (A 0 0)), (2, Value.ref (A 60 0)), (3, Value.int (nI (nrl σ))), (4, Value.int (nI c)), (5, Value.int (nI m)), (10, Value.int iw), (11, Value.long bef), (13, Value.int v9)]) [1, 2, 3, 4, 5, 6, 10, 11, 0] rfl ?_
    refine PW.widen (kc' := kc) (ks' := ks) (by omega) (by omega) ?_
    exact hK.2 _ _ hv Wf
set_option maxHeartbeats 8000000 in
set_option maxRecDepth 100000 in
theorem lw_k196 {G : hG} {sc Ln d : Nat} {xs : Nat → Int32} (hd : 20 ≤ d) {kc ks : Nat} {h : hp} {A : aT} {σ : sT} {ofr : Nat → Nat} {N : Nat} (HW : WS G h A σ) (HJ : J σ ofr N) (HD : JD σ ofr (nrl σ)) {c m w K : Nat} {nm iw kd : Int32} {bef : Int64} (hK0 : 0 < K) (hK20 : K ≤ 20) (hK : KK G d sc Ln xs A σ N c m iw bef kc ks) : PW G ML_law d (psX sc Ln xs) EL (kc + 150) (ks + 900) 196 [(0, Value.ref sc), (1, Value.ref (A 0 0)), (2, Value.ref (A 60 0)), (3, Value.int (nI (nrl σ))), (4, Value.int (nI c)), (5, Value.int (nI m)), (7, Value.int (nI w)), (8, Value.int (nI K)), (9, Value.int nm), (10, Value.int iw), (11, Value.long bef), (13, Value.int 0), (14, Value.int kd)] [] h := by
  have np6 : npk σ ≤ 6 := HW.n6
  have nr20 : nrl σ ≤ 20 := HW.n20
  have nt8 : nts σ ≤ 8 := HW.n8
  refine pw_aload_n (pc2 := 197) dL_law_196 rfl rfl 1 rfl (by first | exact rf_ref _ | exact rf_opt _ | exact rf_nul) ?_
  refine pw_iload (pc2 := 199) dL_law_197 rfl 8 rfl ?_
  refine pw_iload (pc2 := 201) dL_law_199 rfl 6 rfl ?_
  refine pw_bipush (pc2 := 203) (v := 7) dL_law_201 rfl (by decide) ?_
  refine pw_idiv (pc2 := 204) dL_law_203 rfl (by decide) ?_
  refine pw_iload (pc2 := 206) dL_law_204 rfl 7 rfl ?_
  refine pw_irem (pc2 := 207) dL_law_206 rfl (ne_n (n := K) (by omega) (by omega)) ?_
  refine pw_bipush (pc2 := 209) (v := 100) dL_law_207 rfl (by decide) ?_
  refine pw_iload (pc2 := 211) dL_law_209 rfl 6 rfl ?_
  refine pw_bipush (pc2 := 213) (v := 49) dL_law_211 rfl (by decide) ?_
  refine pw_idiv (pc2 := 214) dL_law_213 rfl (by decide) ?_
  refine pw_iconst (pc2 := 215) (v := 4) dL_law_214 rfl (by decide) ?_
  refine pw_irem (pc2 := 216) dL_law_215 rfl (by decide) ?_
  refine pw_iadd (pc2 := 217) dL_law_216 rfl ?_
  refine pw_bipush (pc2 := 219) (v := 103) dL_law_217 rfl (by decide) ?_
  refine pw_iload (pc2 := 221) dL_law_219 rfl 6 rfl ?_
  refine pw_sipush (pc2 := 224) (v := 200) dL_law_221 rfl (by decide) ?_
  refine pw_idiv (pc2 := 225) dL_law_224 rfl (by decide) ?_
  refine pw_sipush (pc2 := 228) (v := 300) dL_law_225 rfl (by decide) ?_
  refine pw_irem (pc2 := 229) dL_law_228 rfl (by decide) ?_
  refine pw_iadd (pc2 := 230) dL_law_229 rfl ?_
  refine PW.widen (kc' := kc + 147 + 3) (ks' := ks + 882 + 18) (by omega) (by omega) ?_
  refine pw_callS (kc := kc + 147) (ks := ks + 882) (pc2 := 233) (x_need HW HJ HD nm (((nI w) / 7) - ((nI w) / 7) / (nI K) * (nI K)) (100 + (((nI w) / 49) - ((nI w) / 49) / 4 * 4)) (103 + (((nI w) / 200) - ((nI w) / 200) / 300 * 300))) cs_L_186 rfl dL_law_230 rfl (by omega) rfl (by first | decide | simp [cat_rf, Value.category]) (fun r9 h9 q9 => ?_) (fun Y h9 q9 => q9.elim)
  obtain ⟨v9, rfl, ⟨hv, A', σ', ofr', ⟨e0, e60⟩, K9, J9, ⟨D9, en⟩⟩ | ⟨hv, Wf, -⟩⟩ := q9
  · rw [← e0, ← e60, ← en]
    refine pw_istore (pc2 := 235) (L2 := [(13, Value.int v9), (0, Value.ref sc), (1, Value.ref (A' 0 0)), (2, Value.ref (A' 60 0)), (3, Value.int (nI (nrl σ'))), (4, Value.int (nI c)), (5, Value.int (nI m)), (7, Value.int (nI w)), (8, Value.int (nI K)), (9, Value.int nm), (10, Value.int iw), (11, Value.long bef), (14, Value.int kd)]) dL_law_233 rfl (by decide) rfl ?_
    refine pw_goto (tgt := 723) dL_law_235 (by decide) ?_
    refine PW.sub (L2 := [(0, Value.ref sc), (1, Value.ref (A' 0 0)), (2, Value.ref (A' 60 0)), (3, Value.int (nI (nrl σ'))), (4, Value.int (nI c)), (5, Value.int (nI m)), (10, Value.int iw), (11, Value.long bef), (13, Value.int v9)]) [1, 2, 3, 4, 5, 6, 10, 11, 0] rfl ?_
    refine PW.widen (kc' := kc) (ks' := ks) (by omega) (by omega) ?_
    exact hK.1 _ _ _ _ _ hv e0 e60 K9.ws J9 D9
  · skip
    refine pw_istore (pc2 := 235) (L2 := [(13, Value.int v9), (0, Value.ref sc), (1, Value.ref (A 0 0)), (2, Value.ref (A 60 0)), (3, Value.int (nI (nrl σ))), (4, Value.int (nI c)), (5, Value.int (nI m)), (7, Value.int (nI w)), (8, Value.int (nI K)), (9, Value.int nm), (10, Value.int iw), (11, Value.long bef), (14, Value.int kd)]) dL_law_233 rfl (by decide) rfl ?_
    refine pw_goto (tgt := 723) dL_law_235 (by decide) ?_
    refine PW.sub (L2 := [(0, Value.ref sc), (1, Value.ref (A 0 0)), (2, Value.ref (A 60 0)), (3, Value.int (nI (nrl σ))), (4, Value.int (nI c)), (5, Value.int (nI m)), (10, Value.int iw), (11, Value.long bef), (13, Value.int v9)]) [1, 2, 3, 4, 5, 6, 10, 11, 0] rfl ?_
    refine PW.widen (kc' := kc) (ks' := ks) (by omega) (by omega) ?_
    exact hK.2 _ _ hv Wf
set_option maxHeartbeats 8000000 in
set_option maxRecDepth 100000 in
theorem lw_k245 {G : hG} {sc Ln d : Nat} {xs : Nat → Int32} (hd : 20 ≤ d) {kc ks : Nat} {h : hp} {A : aT} {σ : sT} {ofr : Nat → Nat} {N : Nat} (HW : WS G h A σ) (HJ : J σ ofr N) (HD : JD σ ofr (nrl σ)) {c m w K : Nat} {nm iw kd : Int32} {bef : Int64} (hK0 : 0 < K) (hK20 : K ≤ 20) (hK : KK G d sc Ln xs A σ N c m iw bef kc ks) : PW G ML_law d (psX sc Ln xs) EL (kc + 150) (ks + 900) 245 [(0, Value.ref sc), (1, Value.ref (A 0 0)), (2, Value.ref (A 60 0)), (3, Value.int (nI (nrl σ))), (4, Value.int (nI c)), (5, Value.int (nI m)), (7, Value.int (nI w)), (8, Value.int (nI K)), (9, Value.int nm), (10, Value.int iw), (11, Value.long bef), (13, Value.int 0), (14, Value.int kd)] [] h := by
  have np6 : npk σ ≤ 6 := HW.n6
  have nr20 : nrl σ ≤ 20 := HW.n20
  have nt8 : nts σ ≤ 8 := HW.n8
  refine pw_aload_n (pc2 := 246) dL_law_245 rfl rfl 1 rfl (by first | exact rf_ref _ | exact rf_opt _ | exact rf_nul) ?_
  refine pw_iload (pc2 := 248) dL_law_246 rfl 8 rfl ?_
  refine pw_iload (pc2 := 250) dL_law_248 rfl 6 rfl ?_
  refine pw_bipush (pc2 := 252) (v := 7) dL_law_250 rfl (by decide) ?_
  refine pw_idiv (pc2 := 253) dL_law_252 rfl (by decide) ?_
  refine pw_iload (pc2 := 255) dL_law_253 rfl 7 rfl ?_
  refine pw_irem (pc2 := 256) dL_law_255 rfl (ne_n (n := K) (by omega) (by omega)) ?_
  refine pw_iconst (pc2 := 257) (v := (-1)) dL_law_256 rfl (by decide) ?_
  refine pw_iconst (pc2 := 258) (v := 0) dL_law_257 rfl (by decide) ?_
  refine PW.widen (kc' := kc + 147 + 3) (ks' := ks + 882 + 18) (by omega) (by omega) ?_
  refine pw_callS (kc := kc + 147) (ks := ks + 882) (pc2 := 261) (x_need HW HJ HD nm (((nI w) / 7) - ((nI w) / 7) / (nI K) * (nI K)) (-1) 0) cs_L_186 rfl dL_law_258 rfl (by omega) rfl (by first | decide | simp [cat_rf, Value.category]) (fun r9 h9 q9 => ?_) (fun Y h9 q9 => q9.elim)
  obtain ⟨v9, rfl, ⟨hv, A', σ', ofr', ⟨e0, e60⟩, K9, J9, ⟨D9, en⟩⟩ | ⟨hv, Wf, -⟩⟩ := q9
  · rw [← e0, ← e60, ← en]
    refine pw_istore (pc2 := 263) (L2 := [(13, Value.int v9), (0, Value.ref sc), (1, Value.ref (A' 0 0)), (2, Value.ref (A' 60 0)), (3, Value.int (nI (nrl σ'))), (4, Value.int (nI c)), (5, Value.int (nI m)), (7, Value.int (nI w)), (8, Value.int (nI K)), (9, Value.int nm), (10, Value.int iw), (11, Value.long bef), (14, Value.int kd)]) dL_law_261 rfl (by decide) rfl ?_
    refine pw_goto (tgt := 723) dL_law_263 (by decide) ?_
    refine PW.sub (L2 := [(0, Value.ref sc), (1, Value.ref (A' 0 0)), (2, Value.ref (A' 60 0)), (3, Value.int (nI (nrl σ'))), (4, Value.int (nI c)), (5, Value.int (nI m)), (10, Value.int iw), (11, Value.long bef), (13, Value.int v9)]) [1, 2, 3, 4, 5, 6, 10, 11, 0] rfl ?_
    refine PW.widen (kc' := kc) (ks' := ks) (by omega) (by omega) ?_
    exact hK.1 _ _ _ _ _ hv e0 e60 K9.ws J9 D9
  · skip
    refine pw_istore (pc2 := 263) (L2 := [(13, Value.int v9), (0, Value.ref sc), (1, Value.ref (A 0 0)), (2, Value.ref (A 60 0)), (3, Value.int (nI (nrl σ))), (4, Value.int (nI c)), (5, Value.int (nI m)), (7, Value.int (nI w)), (8, Value.int (nI K)), (9, Value.int nm), (10, Value.int iw), (11, Value.long bef), (14, Value.int kd)]) dL_law_261 rfl (by decide) rfl ?_
    refine pw_goto (tgt := 723) dL_law_263 (by decide) ?_
    refine PW.sub (L2 := [(0, Value.ref sc), (1, Value.ref (A 0 0)), (2, Value.ref (A 60 0)), (3, Value.int (nI (nrl σ))), (4, Value.int (nI c)), (5, Value.int (nI m)), (10, Value.int iw), (11, Value.long bef), (13, Value.int v9)]) [1, 2, 3, 4, 5, 6, 10, 11, 0] rfl ?_
    refine PW.widen (kc' := kc) (ks' := ks) (by omega) (by omega) ?_
    exact hK.2 _ _ hv Wf
set_option maxHeartbeats 8000000 in
set_option maxRecDepth 100000 in
theorem lw_k273 {G : hG} {sc Ln d : Nat} {xs : Nat → Int32} (hd : 20 ≤ d) {kc ks : Nat} {h : hp} {A : aT} {σ : sT} {ofr : Nat → Nat} {N : Nat} (HW : WS G h A σ) (HJ : J σ ofr N) (HD : JD σ ofr (nrl σ)) {c m w K : Nat} {nm iw kd : Int32} {bef : Int64}  (hK : KK G d sc Ln xs A σ N c m iw bef kc ks) : PW G ML_law d (psX sc Ln xs) EL (kc + 150) (ks + 900) 273 [(0, Value.ref sc), (1, Value.ref (A 0 0)), (2, Value.ref (A 60 0)), (3, Value.int (nI (nrl σ))), (4, Value.int (nI c)), (5, Value.int (nI m)), (7, Value.int (nI w)), (8, Value.int (nI K)), (9, Value.int nm), (10, Value.int iw), (11, Value.long bef), (13, Value.int 0), (14, Value.int kd)] [] h := by
  have np6 : npk σ ≤ 6 := HW.n6
  have nr20 : nrl σ ≤ 20 := HW.n20
  have nt8 : nts σ ≤ 8 := HW.n8
  refine pw_aload_n (pc2 := 274) dL_law_273 rfl rfl 1 rfl (by first | exact rf_ref _ | exact rf_opt _ | exact rf_nul) ?_
  refine PW.widen (kc' := kc + 150 + 0) (ks' := ks + 900 + 0) (by omega) (by omega) ?_
  refine pw_lookV (kc := kc + 150) (ks := ks + 900) (pc2 := 277) (k_comp HW) cs_L_122 rfl rfl HW.c0 dL_law_274 rfl (by omega) rfl (by first | decide | simp [cat_rf, Value.category]) (fun h1 W1 => ?_)
  refine pw_istore (pc2 := 279) (L2 := [(15, Value.int (σ.1 0 0 1)), (0, Value.ref sc), (1, Value.ref (A 0 0)), (2, Value.ref (A 60 0)), (3, Value.int (nI (nrl σ))), (4, Value.int (nI c)), (5, Value.int (nI m)), (7, Value.int (nI w)), (8, Value.int (nI K)), (9, Value.int nm), (10, Value.int iw), (11, Value.long bef), (13, Value.int 0), (14, Value.int kd)]) dL_law_277 rfl (by decide) rfl ?_
  refine pw_aload_n (pc2 := 280) dL_law_279 rfl rfl 2 rfl (by first | exact rf_ref _ | exact rf_opt _ | exact rf_nul) ?_
  refine pw_iload (pc2 := 282) dL_law_280 rfl 9 rfl ?_
  refine pw_iconst (pc2 := 283) (v := 0) dL_law_282 rfl (by decide) ?_
  refine PW.widen (kc' := kc + 148 + 2) (ks' := ks + 888 + 12) (by omega) (by omega) ?_
  refine pw_callS (kc := kc + 148) (ks := ks + 888) (pc2 := 286) (x_comp W1 HJ HD nm) cs_L_109 rfl dL_law_283 rfl (by omega) rfl (by first | decide | simp [cat_rf, Value.category]) (fun r9 h9 q9 => ?_) (fun Y h9 q9 => q9.elim)
  obtain ⟨v9, rfl, ⟨hv, A', σ', ofr', ⟨e0, e60⟩, K9, J9, ⟨D9, en⟩, ec, hx⟩ | ⟨hv, Wf, -⟩⟩ := q9
  · rw [← e0, ← e60, ← en]
    obtain ⟨p, g, hp, rfl, hs, hb⟩ := hx
    refine pw_istore (pc2 := 288) (L2 := [(13, Value.int v9), (15, Value.int (σ.1 0 0 1)), (0, Value.ref sc), (1, Value.ref (A' 0 0)), (2, Value.ref (A' 60 0)), (3, Value.int (nI (nrl σ'))), (4, Value.int (nI c)), (5, Value.int (nI m)), (7, Value.int (nI w)), (8, Value.int (nI K)), (9, Value.int (nI p)), (10, Value.int iw), (11, Value.long bef), (14, Value.int kd)]) dL_law_286 rfl (by decide) rfl ?_
    refine pw_iload (pc2 := 290) dL_law_288 rfl 0 rfl ?_
    refine pw_if_lt (tgt := 317) (pc2 := 293) dL_law_290 (by decide) rfl (fun c290 => by exact absurd c290 (hv)) (fun _ => ?_)
    refine pw_aload_n (pc2 := 294) dL_law_293 rfl rfl 3 rfl (by first | exact rf_ref _ | exact rf_opt _ | exact rf_nul) ?_
    refine PW.widen (kc' := kc + 148 + 0) (ks' := ks + 888 + 0) (by omega) (by omega) ?_
    refine pw_lookV (kc := kc + 148) (ks := ks + 888) (pc2 := 297) (k_comp K9.ws) cs_L_122 rfl rfl K9.ws.c0 dL_law_294 rfl (by omega) rfl (by first | decide | simp [cat_rf, Value.category]) (fun h2 W2 => ?_)
    refine pw_iload (pc2 := 299) dL_law_297 rfl 1 rfl ?_
    refine pw_iload (pc2 := 301) dL_law_299 rfl 0 rfl ?_
    refine pw_iadd (pc2 := 302) dL_law_301 rfl ?_
    refine pw_icmp_ne (tgt := 315) (pc2 := 305) dL_law_302 (by decide) rfl (fun c302 => by exact absurd (ec) c302) (fun _ => ?_)
    refine pw_aload_n (pc2 := 306) dL_law_305 rfl rfl 3 rfl (by first | exact rf_ref _ | exact rf_opt _ | exact rf_nul) ?_
    refine pw_iload (pc2 := 308) dL_law_306 rfl 10 rfl ?_
    refine pw_iconst (pc2 := 309) (v := 0) dL_law_308 rfl (by decide) ?_
    refine PW.widen (kc' := kc + 146 + 2) (ks' := ks + 876 + 12) (by omega) (by omega) ?_
    refine pw_lookS (kc := kc + 146) (ks := ks + 876) (pc2 := 312) (k_comp0 W2 hp hs hb) cs_L_109 rfl dL_law_309 rfl (by omega) rfl (by first | decide | simp [cat_rf, Value.category]) (fun h3 W3 => ?_)
    refine pw_if_eq (tgt := 317) (pc2 := 315) dL_law_312 (by decide) rfl (fun _ => ?_) (fun c312 => by exact absurd (by decide) c312)
    refine pw_goto (tgt := 723) dL_law_317 (by decide) ?_
    refine PW.sub (L2 := [(0, Value.ref sc), (1, Value.ref (A' 0 0)), (2, Value.ref (A' 60 0)), (3, Value.int (nI (nrl σ'))), (4, Value.int (nI c)), (5, Value.int (nI m)), (10, Value.int iw), (11, Value.long bef), (13, Value.int v9)]) [2, 3, 4, 5, 6, 7, 11, 12, 0] rfl ?_
    refine PW.widen (kc' := kc) (ks' := ks) (by omega) (by omega) ?_
    exact hK.1 _ _ _ _ _ hv e0 e60 W3 J9 D9
  · skip
    refine pw_istore (pc2 := 288) (L2 := [(13, Value.int v9), (15, Value.int (σ.1 0 0 1)), (0, Value.ref sc), (1, Value.ref (A 0 0)), (2, Value.ref (A 60 0)), (3, Value.int (nI (nrl σ))), (4, Value.int (nI c)), (5, Value.int (nI m)), (7, Value.int (nI w)), (8, Value.int (nI K)), (9, Value.int nm), (10, Value.int iw), (11, Value.long bef), (14, Value.int kd)]) dL_law_286 rfl (by decide) rfl ?_
    refine pw_iload (pc2 := 290) dL_law_288 rfl 0 rfl ?_
    refine pw_if_lt (tgt := 317) (pc2 := 293) dL_law_290 (by decide) rfl (fun _ => ?_) (fun c290 => by exact absurd (lt_neg hv) c290)
    refine pw_goto (tgt := 723) dL_law_317 (by decide) ?_
    refine PW.sub (L2 := [(0, Value.ref sc), (1, Value.ref (A 0 0)), (2, Value.ref (A 60 0)), (3, Value.int (nI (nrl σ))), (4, Value.int (nI c)), (5, Value.int (nI m)), (10, Value.int iw), (11, Value.long bef), (13, Value.int v9)]) [2, 3, 4, 5, 6, 7, 11, 12, 0] rfl ?_
    refine PW.widen (kc' := kc) (ks' := ks) (by omega) (by omega) ?_
    exact hK.2 _ _ hv Wf
set_option maxHeartbeats 8000000 in
set_option maxRecDepth 100000 in
theorem lw_k327 {G : hG} {sc Ln d : Nat} {xs : Nat → Int32} (hd : 20 ≤ d) {kc ks : Nat} {h : hp} {A : aT} {σ : sT} {ofr : Nat → Nat} {N : Nat} (HW : WS G h A σ) (HJ : J σ ofr N) (HD : JD σ ofr (nrl σ)) {c m w K : Nat} {nm iw kd : Int32} {bef : Int64}  (hK : KK G d sc Ln xs A σ N c m iw bef kc ks) : PW G ML_law d (psX sc Ln xs) EL (kc + 150) (ks + 900) 327 [(0, Value.ref sc), (1, Value.ref (A 0 0)), (2, Value.ref (A 60 0)), (3, Value.int (nI (nrl σ))), (4, Value.int (nI c)), (5, Value.int (nI m)), (7, Value.int (nI w)), (8, Value.int (nI K)), (9, Value.int nm), (10, Value.int iw), (11, Value.long bef), (13, Value.int 0), (14, Value.int kd)] [] h := by
  have np6 : npk σ ≤ 6 := HW.n6
  have nr20 : nrl σ ≤ 20 := HW.n20
  have nt8 : nts σ ≤ 8 := HW.n8
  refine pw_aload_n (pc2 := 328) dL_law_327 rfl rfl 1 rfl (by first | exact rf_ref _ | exact rf_opt _ | exact rf_nul) ?_
  refine pw_iload (pc2 := 330) dL_law_328 rfl 8 rfl ?_
  refine pw_iconst (pc2 := 331) (v := 1) dL_law_330 rfl (by decide) ?_
  refine pw_iload (pc2 := 333) dL_law_331 rfl 6 rfl ?_
  refine pw_bipush (pc2 := 335) (v := 7) dL_law_333 rfl (by decide) ?_
  refine pw_idiv (pc2 := 336) dL_law_335 rfl (by decide) ?_
  refine pw_bipush (pc2 := 338) (v := 60) dL_law_336 rfl (by decide) ?_
  refine pw_irem (pc2 := 339) dL_law_338 rfl (by decide) ?_
  refine pw_iadd (pc2 := 340) dL_law_339 rfl ?_
  refine PW.widen (kc' := kc + 140 + 4) (ks' := ks + 840 + 59) (by omega) (by omega) ?_
  refine pw_callS (kc := kc + 140) (ks := ks + 840) (pc2 := 343) (x_addT HW HJ HD nm (1 + (((nI w) / 7) - ((nI w) / 7) / 60 * 60))) cs_L_189 rfl dL_law_340 rfl (by omega) rfl (by first | decide | simp [cat_rf, Value.category]) (fun r9 h9 q9 => ?_) (fun Y h9 q9 => q9.elim)
  obtain ⟨v9, rfl, ⟨hv, A', σ', ofr', ⟨e0, e60⟩, K9, J9, ⟨D9, en⟩⟩ | ⟨hv, Wf, -⟩⟩ := q9
  · rw [← e0, ← e60, ← en]
    refine pw_istore (pc2 := 345) (L2 := [(13, Value.int v9), (0, Value.ref sc), (1, Value.ref (A' 0 0)), (2, Value.ref (A' 60 0)), (3, Value.int (nI (nrl σ'))), (4, Value.int (nI c)), (5, Value.int (nI m)), (7, Value.int (nI w)), (8, Value.int (nI K)), (9, Value.int nm), (10, Value.int iw), (11, Value.long bef), (14, Value.int kd)]) dL_law_343 rfl (by decide) rfl ?_
    refine pw_goto (tgt := 723) dL_law_345 (by decide) ?_
    refine PW.sub (L2 := [(0, Value.ref sc), (1, Value.ref (A' 0 0)), (2, Value.ref (A' 60 0)), (3, Value.int (nI (nrl σ'))), (4, Value.int (nI c)), (5, Value.int (nI m)), (10, Value.int iw), (11, Value.long bef), (13, Value.int v9)]) [1, 2, 3, 4, 5, 6, 10, 11, 0] rfl ?_
    refine PW.widen (kc' := kc) (ks' := ks) (by omega) (by omega) ?_
    exact hK.1 _ _ _ _ _ hv e0 e60 K9.ws J9 D9
  · skip
    refine pw_istore (pc2 := 345) (L2 := [(13, Value.int v9), (0, Value.ref sc), (1, Value.ref (A 0 0)), (2, Value.ref (A 60 0)), (3, Value.int (nI (nrl σ))), (4, Value.int (nI c)), (5, Value.int (nI m)), (7, Value.int (nI w)), (8, Value.int (nI K)), (9, Value.int nm), (10, Value.int iw), (11, Value.long bef), (14, Value.int kd)]) dL_law_343 rfl (by decide) rfl ?_
    refine pw_goto (tgt := 723) dL_law_345 (by decide) ?_
    refine PW.sub (L2 := [(0, Value.ref sc), (1, Value.ref (A 0 0)), (2, Value.ref (A 60 0)), (3, Value.int (nI (nrl σ))), (4, Value.int (nI c)), (5, Value.int (nI m)), (10, Value.int iw), (11, Value.long bef), (13, Value.int v9)]) [1, 2, 3, 4, 5, 6, 10, 11, 0] rfl ?_
    refine PW.widen (kc' := kc) (ks' := ks) (by omega) (by omega) ?_
    exact hK.2 _ _ hv Wf
set_option maxHeartbeats 8000000 in
set_option maxRecDepth 100000 in
theorem lw_k355 {G : hG} {sc Ln d : Nat} {xs : Nat → Int32} (hd : 20 ≤ d) {kc ks : Nat} {h : hp} {A : aT} {σ : sT} {ofr : Nat → Nat} {N : Nat} (HW : WS G h A σ) (HJ : J σ ofr N) (HD : JD σ ofr (nrl σ)) {c m w K : Nat} {nm iw kd : Int32} {bef : Int64}  (hK : KK G d sc Ln xs A σ N c m iw bef kc ks) : PW G ML_law d (psX sc Ln xs) EL (kc + 150) (ks + 900) 355 [(0, Value.ref sc), (1, Value.ref (A 0 0)), (2, Value.ref (A 60 0)), (3, Value.int (nI (nrl σ))), (4, Value.int (nI c)), (5, Value.int (nI m)), (7, Value.int (nI w)), (8, Value.int (nI K)), (9, Value.int nm), (10, Value.int iw), (11, Value.long bef), (13, Value.int 0), (14, Value.int kd)] [] h := by
  have np6 : npk σ ≤ 6 := HW.n6
  have nr20 : nrl σ ≤ 20 := HW.n20
  have nt8 : nts σ ≤ 8 := HW.n8
  refine pw_aload_n (pc2 := 356) dL_law_355 rfl rfl 1 rfl (by first | exact rf_ref _ | exact rf_opt _ | exact rf_nul) ?_
  refine pw_iload (pc2 := 358) dL_law_356 rfl 6 rfl ?_
  refine pw_iconst (pc2 := 359) (v := 1) dL_law_358 rfl (by decide) ?_
  refine pw_aload_n (pc2 := 360) dL_law_359 rfl rfl 1 rfl (by first | exact rf_ref _ | exact rf_opt _ | exact rf_nul) ?_
  refine PW.widen (kc' := kc + 141 + 9) (ks' := ks + 846 + 54) (by omega) (by omega) ?_
  refine pw_lookS (kc := kc + 141) (ks := ks + 846) (pc2 := 363) (c_many G _ HW HJ) cs_L_156 rfl dL_law_360 rfl (by omega) rfl (by first | decide | simp [cat_rf, Value.category]) (fun h1 W1 => ?_)
  refine pw_mmax (pc2 := 366) cs_L_170 dL_law_363 rfl (by first | decide | simp [cat_rf, Value.category]) ?_
  obtain ⟨T, T0, T20, Tn, Te⟩ := max1 (nts σ) (by omega)
  refine pw_topE Te ?_
  refine pw_irem (pc2 := 367) dL_law_366 rfl (ne_n (n := T) (by omega) (by omega)) ?_
  refine pw_iconst (pc2 := 368) (v := 1) dL_law_367 rfl (by decide) ?_
  refine pw_iload (pc2 := 370) dL_law_368 rfl 6 rfl ?_
  refine pw_bipush (pc2 := 372) (v := 40) dL_law_370 rfl (by decide) ?_
  refine pw_idiv (pc2 := 373) dL_law_372 rfl (by decide) ?_
  refine pw_iconst (pc2 := 374) (v := 2) dL_law_373 rfl (by decide) ?_
  refine pw_irem (pc2 := 375) dL_law_374 rfl (by decide) ?_
  refine pw_iadd (pc2 := 376) dL_law_375 rfl ?_
  refine PW.widen (kc' := kc + 140 + 1) (ks' := ks + 840 + 6) (by omega) (by omega) ?_
  refine pw_callS (kc := kc + 140) (ks := ks + 840) (pc2 := 379) (x_ts W1 HJ HD ((nI w) - (nI w) / (nI T) * (nI T)) (1 + (((nI w) / 40) - ((nI w) / 40) / 2 * 2))) cs_L_115 rfl dL_law_376 rfl (by omega) rfl (by first | decide | simp [cat_rf, Value.category]) (fun r9 h9 q9 => ?_) (fun Y h9 q9 => q9.elim)
  obtain ⟨v9, rfl, ⟨hv, A', σ', ofr', ⟨e0, e60⟩, K9, J9, ⟨D9, en⟩⟩ | ⟨hv, Wf, -⟩⟩ := q9
  · rw [← e0, ← e60, ← en]
    refine pw_istore (pc2 := 381) (L2 := [(13, Value.int v9), (0, Value.ref sc), (1, Value.ref (A' 0 0)), (2, Value.ref (A' 60 0)), (3, Value.int (nI (nrl σ'))), (4, Value.int (nI c)), (5, Value.int (nI m)), (7, Value.int (nI w)), (8, Value.int (nI K)), (9, Value.int nm), (10, Value.int iw), (11, Value.long bef), (14, Value.int kd)]) dL_law_379 rfl (by decide) rfl ?_
    refine pw_goto (tgt := 723) dL_law_381 (by decide) ?_
    refine PW.sub (L2 := [(0, Value.ref sc), (1, Value.ref (A' 0 0)), (2, Value.ref (A' 60 0)), (3, Value.int (nI (nrl σ'))), (4, Value.int (nI c)), (5, Value.int (nI m)), (10, Value.int iw), (11, Value.long bef), (13, Value.int v9)]) [1, 2, 3, 4, 5, 6, 10, 11, 0] rfl ?_
    refine PW.widen (kc' := kc) (ks' := ks) (by omega) (by omega) ?_
    exact hK.1 _ _ _ _ _ hv e0 e60 K9.ws J9 D9
  · skip
    refine pw_istore (pc2 := 381) (L2 := [(13, Value.int v9), (0, Value.ref sc), (1, Value.ref (A 0 0)), (2, Value.ref (A 60 0)), (3, Value.int (nI (nrl σ))), (4, Value.int (nI c)), (5, Value.int (nI m)), (7, Value.int (nI w)), (8, Value.int (nI K)), (9, Value.int nm), (10, Value.int iw), (11, Value.long bef), (14, Value.int kd)]) dL_law_379 rfl (by decide) rfl ?_
    refine pw_goto (tgt := 723) dL_law_381 (by decide) ?_
    refine PW.sub (L2 := [(0, Value.ref sc), (1, Value.ref (A 0 0)), (2, Value.ref (A 60 0)), (3, Value.int (nI (nrl σ))), (4, Value.int (nI c)), (5, Value.int (nI m)), (10, Value.int iw), (11, Value.long bef), (13, Value.int v9)]) [1, 2, 3, 4, 5, 6, 10, 11, 0] rfl ?_
    refine PW.widen (kc' := kc) (ks' := ks) (by omega) (by omega) ?_
    exact hK.2 _ _ hv Wf
set_option maxHeartbeats 8000000 in
set_option maxRecDepth 100000 in
theorem lw_k391 {G : hG} {sc Ln d : Nat} {xs : Nat → Int32} (hd : 20 ≤ d) {kc ks : Nat} {h : hp} {A : aT} {σ : sT} {ofr : Nat → Nat} {N : Nat} (HW : WS G h A σ) (HJ : J σ ofr N) (HD : JD σ ofr (nrl σ)) {c m w K : Nat} {nm iw kd : Int32} {bef : Int64} (hN : N < 1000000) (hK : KK G d sc Ln xs A σ N c m iw bef kc ks) : PW G ML_law d (psX sc Ln xs) EL (kc + 150) (ks + 900) 391 [(0, Value.ref sc), (1, Value.ref (A 0 0)), (2, Value.ref (A 60 0)), (3, Value.int (nI (nrl σ))), (4, Value.int (nI c)), (5, Value.int (nI m)), (7, Value.int (nI w)), (8, Value.int (nI K)), (9, Value.int nm), (10, Value.int iw), (11, Value.long bef), (13, Value.int 0), (14, Value.int kd)] [] h := by
  have np6 : npk σ ≤ 6 := HW.n6
  have nr20 : nrl σ ≤ 20 := HW.n20
  have nt8 : nts σ ≤ 8 := HW.n8
  refine pw_aload_n (pc2 := 392) dL_law_391 rfl rfl 1 rfl (by first | exact rf_ref _ | exact rf_opt _ | exact rf_nul) ?_
  refine pw_bipush (pc2 := 394) (v := 102) dL_law_392 rfl (by decide) ?_
  refine pw_iload (pc2 := 396) dL_law_394 rfl 6 rfl ?_
  refine pw_iconst (pc2 := 397) (v := 3) dL_law_396 rfl (by decide) ?_
  refine pw_irem (pc2 := 398) dL_law_397 rfl (by decide) ?_
  refine pw_iconst (pc2 := 399) (v := 1) dL_law_398 rfl (by decide) ?_
  refine pw_iload (pc2 := 401) dL_law_399 rfl 6 rfl ?_
  refine pw_bipush (pc2 := 403) (v := 7) dL_law_401 rfl (by decide) ?_
  refine pw_idiv (pc2 := 404) dL_law_403 rfl (by decide) ?_
  refine pw_sipush (pc2 := 407) (v := 300) dL_law_404 rfl (by decide) ?_
  refine pw_irem (pc2 := 408) dL_law_407 rfl (by decide) ?_
  refine pw_iadd (pc2 := 409) dL_law_408 rfl ?_
  refine PW.widen (kc' := kc + 148 + 2) (ks' := ks + 888 + 12) (by omega) (by omega) ?_
  refine pw_callS (kc := kc + 148) (ks := ks + 888) (pc2 := 412) (x_fund HW HJ hN HD ((nI w) - (nI w) / 3 * 3) (1 + (((nI w) / 7) - ((nI w) / 7) / 300 * 300))) cs_L_141 rfl dL_law_409 rfl (by omega) rfl (by first | decide | simp [cat_rf, Value.category]) (fun r9 h9 q9 => ?_) (fun Y h9 q9 => q9.elim)
  obtain ⟨v9, rfl, ⟨hv, A', σ', ofr', ⟨e0, e60⟩, K9, J9, ⟨D9, en⟩⟩ | ⟨hv, Wf, -⟩⟩ := q9
  · rw [← e0, ← e60, ← en]
    refine pw_istore (pc2 := 414) (L2 := [(13, Value.int v9), (0, Value.ref sc), (1, Value.ref (A' 0 0)), (2, Value.ref (A' 60 0)), (3, Value.int (nI (nrl σ'))), (4, Value.int (nI c)), (5, Value.int (nI m)), (7, Value.int (nI w)), (8, Value.int (nI K)), (9, Value.int nm), (10, Value.int iw), (11, Value.long bef), (14, Value.int kd)]) dL_law_412 rfl (by decide) rfl ?_
    refine pw_goto (tgt := 723) dL_law_414 (by decide) ?_
    refine PW.sub (L2 := [(0, Value.ref sc), (1, Value.ref (A' 0 0)), (2, Value.ref (A' 60 0)), (3, Value.int (nI (nrl σ'))), (4, Value.int (nI c)), (5, Value.int (nI m)), (10, Value.int iw), (11, Value.long bef), (13, Value.int v9)]) [1, 2, 3, 4, 5, 6, 10, 11, 0] rfl ?_
    refine PW.widen (kc' := kc) (ks' := ks) (by omega) (by omega) ?_
    exact hK.1 _ _ _ _ _ hv e0 e60 K9.ws J9 D9
  · skip
    refine pw_istore (pc2 := 414) (L2 := [(13, Value.int v9), (0, Value.ref sc), (1, Value.ref (A 0 0)), (2, Value.ref (A 60 0)), (3, Value.int (nI (nrl σ))), (4, Value.int (nI c)), (5, Value.int (nI m)), (7, Value.int (nI w)), (8, Value.int (nI K)), (9, Value.int nm), (10, Value.int iw), (11, Value.long bef), (14, Value.int kd)]) dL_law_412 rfl (by decide) rfl ?_
    refine pw_goto (tgt := 723) dL_law_414 (by decide) ?_
    refine PW.sub (L2 := [(0, Value.ref sc), (1, Value.ref (A 0 0)), (2, Value.ref (A 60 0)), (3, Value.int (nI (nrl σ))), (4, Value.int (nI c)), (5, Value.int (nI m)), (10, Value.int iw), (11, Value.long bef), (13, Value.int v9)]) [1, 2, 3, 4, 5, 6, 10, 11, 0] rfl ?_
    refine PW.widen (kc' := kc) (ks' := ks) (by omega) (by omega) ?_
    exact hK.2 _ _ hv Wf
set_option maxHeartbeats 8000000 in
set_option maxRecDepth 100000 in
theorem lw_k424 {G : hG} {sc Ln d : Nat} {xs : Nat → Int32} (hd : 20 ≤ d) {kc ks : Nat} {h : hp} {A : aT} {σ : sT} {ofr : Nat → Nat} {N : Nat} (HW : WS G h A σ) (HJ : J σ ofr N) (HD : JD σ ofr (nrl σ)) {c m w K : Nat} {nm iw kd : Int32} {bef : Int64} (hN : N < 1000000) (hK : KK G d sc Ln xs A σ N c m iw bef kc ks) : PW G ML_law d (psX sc Ln xs) EL (kc + 150) (ks + 900) 424 [(0, Value.ref sc), (1, Value.ref (A 0 0)), (2, Value.ref (A 60 0)), (3, Value.int (nI (nrl σ))), (4, Value.int (nI c)), (5, Value.int (nI m)), (7, Value.int (nI w)), (8, Value.int (nI K)), (9, Value.int nm), (10, Value.int iw), (11, Value.long bef), (13, Value.int 0), (14, Value.int kd)] [] h := by
  have np6 : npk σ ≤ 6 := HW.n6
  have nr20 : nrl σ ≤ 20 := HW.n20
  have nt8 : nts σ ≤ 8 := HW.n8
  refine pw_aload_n (pc2 := 425) dL_law_424 rfl rfl 1 rfl (by first | exact rf_ref _ | exact rf_opt _ | exact rf_nul) ?_
  refine pw_iload (pc2 := 427) dL_law_425 rfl 8 rfl ?_
  refine pw_iconst (pc2 := 428) (v := 1) dL_law_427 rfl (by decide) ?_
  refine PW.widen (kc' := kc + 147 + 3) (ks' := ks + 882 + 18) (by omega) (by omega) ?_
  refine pw_callS (kc := kc + 147) (ks := ks + 882) (pc2 := 431) (x_test HW HJ hN HD nm) cs_L_109 rfl dL_law_428 rfl (by omega) rfl (by first | decide | simp [cat_rf, Value.category]) (fun r9 h9 q9 => ?_) (fun Y h9 q9 => q9.elim)
  obtain ⟨v9, rfl, ⟨hv, A', σ', ofr', ⟨e0, e60⟩, K9, J9, ⟨D9, en⟩, hx⟩ | ⟨hv, Wf, -⟩⟩ := q9
  · rw [← e0, ← e60, ← en]
    obtain ⟨p, hp, rfl, hpv⟩ := hx
    refine pw_istore (pc2 := 433) (L2 := [(13, Value.int v9), (0, Value.ref sc), (1, Value.ref (A' 0 0)), (2, Value.ref (A' 60 0)), (3, Value.int (nI (nrl σ'))), (4, Value.int (nI c)), (5, Value.int (nI m)), (7, Value.int (nI w)), (8, Value.int (nI K)), (9, Value.int (nI p)), (10, Value.int iw), (11, Value.long bef), (14, Value.int kd)]) dL_law_431 rfl (by decide) rfl ?_
    refine pw_iload (pc2 := 435) dL_law_433 rfl 0 rfl ?_
    refine pw_if_lt (tgt := 723) (pc2 := 438) dL_law_435 (by decide) rfl (fun c435 => by exact absurd c435 (hv)) (fun _ => ?_)
    by_cases hc : v9 = 0
    · have ha : aCan σ' p = 1 := aCan1 (hpv.mpr hc)
      refine pw_aload_n (pc2 := 439) dL_law_438 rfl rfl 2 rfl (by first | exact rf_ref _ | exact rf_opt _ | exact rf_nul) ?_
      refine pw_iload (pc2 := 441) dL_law_439 rfl 9 rfl ?_
      refine pw_iconst (pc2 := 442) (v := 3) dL_law_441 rfl (by decide) ?_
      refine PW.widen (kc' := kc + 146 + 1) (ks' := ks + 876 + 6) (by omega) (by omega) ?_
      refine pw_lookS (kc := kc + 146) (ks := ks + 876) (pc2 := 445) (k_of3 K9.ws hp) cs_L_109 rfl dL_law_442 rfl (by omega) rfl (by first | decide | simp [cat_rf, Value.category]) (fun h1 W1 => ?_)
      refine pw_iconst (pc2 := 446) (v := 1) dL_law_445 rfl (by decide) ?_
      refine pw_icmp_ne (tgt := 453) (pc2 := 449) dL_law_446 (by decide) rfl (fun c446 => by exact absurd (ha) c446) (fun _ => ?_)
      refine pw_iconst (pc2 := 450) (v := 1) dL_law_449 rfl (by decide) ?_
      refine pw_goto (tgt := 454) dL_law_450 (by decide) ?_
      refine pw_iload (pc2 := 456) dL_law_454 rfl 0 rfl ?_
      refine pw_if_ne (tgt := 463) (pc2 := 459) dL_law_456 (by decide) rfl (fun c456 => by exact absurd (hc) c456) (fun _ => ?_)
      refine pw_iconst (pc2 := 460) (v := 1) dL_law_459 rfl (by decide) ?_
      refine pw_goto (tgt := 464) dL_law_460 (by decide) ?_
      refine pw_icmp_eq (tgt := 723) (pc2 := 467) dL_law_464 (by decide) rfl (fun _ => ?_) (fun c464 => by exact absurd (by decide) c464)
      refine PW.sub (L2 := [(0, Value.ref sc), (1, Value.ref (A' 0 0)), (2, Value.ref (A' 60 0)), (3, Value.int (nI (nrl σ'))), (4, Value.int (nI c)), (5, Value.int (nI m)), (10, Value.int iw), (11, Value.long bef), (13, Value.int v9)]) [1, 2, 3, 4, 5, 6, 10, 11, 0] rfl ?_
      refine PW.widen (kc' := kc) (ks' := ks) (by omega) (by omega) ?_
      exact hK.1 _ _ _ _ _ hv e0 e60 W1 J9 D9
    · have ha : ¬ aCan σ' p = 1 := by rw [aCan0 (fun z => hc (hpv.mp z))]; decide
      refine pw_aload_n (pc2 := 439) dL_law_438 rfl rfl 2 rfl (by first | exact rf_ref _ | exact rf_opt _ | exact rf_nul) ?_
      refine pw_iload (pc2 := 441) dL_law_439 rfl 9 rfl ?_
      refine pw_iconst (pc2 := 442) (v := 3) dL_law_441 rfl (by decide) ?_
      refine PW.widen (kc' := kc + 146 + 1) (ks' := ks + 876 + 6) (by omega) (by omega) ?_
      refine pw_lookS (kc := kc + 146) (ks := ks + 876) (pc2 := 445) (k_of3 K9.ws hp) cs_L_109 rfl dL_law_442 rfl (by omega) rfl (by first | decide | simp [cat_rf, Value.category]) (fun h2 W2 => ?_)
      refine pw_iconst (pc2 := 446) (v := 1) dL_law_445 rfl (by decide) ?_
      refine pw_icmp_ne (tgt := 453) (pc2 := 449) dL_law_446 (by decide) rfl (fun _ => ?_) (fun c446 => by exact absurd c446 (ha))
      refine pw_iconst (pc2 := 454) (v := 0) dL_law_453 rfl (by decide) ?_
      refine pw_iload (pc2 := 456) dL_law_454 rfl 0 rfl ?_
      refine pw_if_ne (tgt := 463) (pc2 := 459) dL_law_456 (by decide) rfl (fun _ => ?_) (fun c456 => by exact absurd c456 (hc))
      refine pw_iconst (pc2 := 464) (v := 0) dL_law_463 rfl (by decide) ?_
      refine pw_icmp_eq (tgt := 723) (pc2 := 467) dL_law_464 (by decide) rfl (fun _ => ?_) (fun c464 => by exact absurd (by decide) c464)
      refine PW.sub (L2 := [(0, Value.ref sc), (1, Value.ref (A' 0 0)), (2, Value.ref (A' 60 0)), (3, Value.int (nI (nrl σ'))), (4, Value.int (nI c)), (5, Value.int (nI m)), (10, Value.int iw), (11, Value.long bef), (13, Value.int v9)]) [1, 2, 3, 4, 5, 6, 10, 11, 0] rfl ?_
      refine PW.widen (kc' := kc) (ks' := ks) (by omega) (by omega) ?_
      exact hK.1 _ _ _ _ _ hv e0 e60 W2 J9 D9
  · skip
    refine pw_istore (pc2 := 433) (L2 := [(13, Value.int v9), (0, Value.ref sc), (1, Value.ref (A 0 0)), (2, Value.ref (A 60 0)), (3, Value.int (nI (nrl σ))), (4, Value.int (nI c)), (5, Value.int (nI m)), (7, Value.int (nI w)), (8, Value.int (nI K)), (9, Value.int nm), (10, Value.int iw), (11, Value.long bef), (14, Value.int kd)]) dL_law_431 rfl (by decide) rfl ?_
    refine pw_iload (pc2 := 435) dL_law_433 rfl 0 rfl ?_
    refine pw_if_lt (tgt := 723) (pc2 := 438) dL_law_435 (by decide) rfl (fun _ => ?_) (fun c435 => by exact absurd (lt_neg hv) c435)
    refine PW.sub (L2 := [(0, Value.ref sc), (1, Value.ref (A 0 0)), (2, Value.ref (A 60 0)), (3, Value.int (nI (nrl σ))), (4, Value.int (nI c)), (5, Value.int (nI m)), (10, Value.int iw), (11, Value.long bef), (13, Value.int v9)]) [1, 2, 3, 4, 5, 6, 10, 11, 0] rfl ?_
    refine PW.widen (kc' := kc) (ks' := ks) (by omega) (by omega) ?_
    exact hK.2 _ _ hv Wf
