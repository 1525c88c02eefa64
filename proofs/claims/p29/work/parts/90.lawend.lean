/-! the law's end: soundness once more, and all that is refused -/
set_option maxHeartbeats 8000000 in
set_option maxRecDepth 100000 in
theorem law_end {G : hG} {sc Ln d : Nat} {xs : Nat → Int32} (hd : 20 ≤ d) {h : hp} {A : aT} {σ : sT} {ofr : Nat → Nat} {N : Nat} (HW : WS G h A σ) (HJ : J σ ofr N) (HD : JD σ ofr (nrl σ)) : PW G ML_law d (psX sc Ln xs) EL 1500 9000 773 [(0, Value.ref sc), (1, Value.ref (A 0 0)), (2, Value.ref (A 60 0)), (3, Value.int (nI (nrl σ)))] [] h := by
  have h6 : npk σ ≤ 6 := HW.n6
  have h20 : nrl σ ≤ 20 := HW.n20
  have hs8 : nts σ ≤ 8 := HW.n8
  have hx : ¬ inR (nI (npk σ)) (npk σ) := x_in (by omega)
  have ht : ¬ inR (nI (nts σ)) (nts σ) := x_in (by omega)
  rcases (by omega : npk σ = 0 ∨ npk σ = 1 ∨ 2 ≤ npk σ) with hc | hc | hc
  · have q0 : nI (npk σ) ≤ 0 := by rw [hc]; decide
    have q1 : nI (npk σ) ≤ 1 := by rw [hc]; decide
    have qz : nI (npk σ) = 0 := by rw [hc]; rfl
    refine pw_aload_n (pc2 := 774) dL_law_773 rfl rfl 1 rfl (by first | exact rf_ref _ | exact rf_opt _ | exact rf_nul) ?_
    refine pw_aload_n (pc2 := 775) dL_law_774 rfl rfl 2 rfl (by first | exact rf_ref _ | exact rf_opt _ | exact rf_nul) ?_
    refine pw_iload_n (pc2 := 776) dL_law_775 rfl rfl 3 rfl ?_
    refine PW.widen (kc' := 560 + 940) (ks' := 3360 + 5640) (by omega) (by omega) ?_
    refine pw_lookS (kc := 560) (ks := 3360) (pc2 := 779) (c_sound G _ HW HJ HD) cs_L_191 rfl dL_law_776 rfl (by omega) rfl (by first | decide | simp [cat_rf, Value.category]) (fun h1 W1 => ?_)
    refine pw_if_ne (tgt := 784) (pc2 := 782) dL_law_779 (by decide) rfl (fun _ => ?_) (fun c779 => by exact absurd c779 (by decide))
    refine pw_aload_n (pc2 := 785) dL_law_784 rfl rfl 1 rfl (by first | exact rf_ref _ | exact rf_opt _ | exact rf_nul) ?_
    refine PW.widen (kc' := 430 + 130) (ks' := 2580 + 780) (by omega) (by omega) ?_
    refine pw_lookS (kc := 430) (ks := 2580) (pc2 := 788) (c_sum G _ W1 HJ) cs_L_175 rfl dL_law_785 rfl (by omega) rfl (by first | decide | simp [cat_rf, Value.category]) (fun h2 W2 => ?_)
    refine pw_lstore (pc2 := 790) (L2 := [(5, Value.long (sumF σ)), (0, Value.ref sc), (1, Value.ref (A 0 0)), (2, Value.ref (A 60 0)), (3, Value.int (nI (nrl σ)))]) dL_law_788 rfl (by decide) rfl ?_
    refine pw_aload_n (pc2 := 791) dL_law_790 rfl rfl 2 rfl (by first | exact rf_ref _ | exact rf_opt _ | exact rf_nul) ?_
    refine PW.widen (kc' := 423 + 7) (ks' := 2538 + 42) (by omega) (by omega) ?_
    refine pw_lookS (kc := 423) (ks := 2538) (pc2 := 794) (c_packs G _ W2 HJ) cs_L_118 rfl dL_law_791 rfl (by omega) rfl (by first | decide | simp [cat_rf, Value.category]) (fun h3 W3 => ?_)
    refine pw_istore (pc2 := 796) (L2 := [(7, Value.int (nI (npk σ))), (5, Value.long (sumF σ)), (0, Value.ref sc), (1, Value.ref (A 0 0)), (2, Value.ref (A 60 0)), (3, Value.int (nI (nrl σ)))]) dL_law_794 rfl (by decide) rfl ?_
    refine pw_aload_n (pc2 := 797) dL_law_796 rfl rfl 3 rfl (by first | exact rf_ref _ | exact rf_opt _ | exact rf_nul) ?_
    refine PW.widen (kc' := 414 + 9) (ks' := 2484 + 54) (by omega) (by omega) ?_
    refine pw_lookS (kc := 414) (ks := 2484) (pc2 := 800) (c_many G _ W3 HJ) cs_L_156 rfl dL_law_797 rfl (by omega) rfl (by first | decide | simp [cat_rf, Value.category]) (fun h4 W4 => ?_)
    refine pw_istore (pc2 := 802) (L2 := [(8, Value.int (nI (nts σ))), (7, Value.int (nI (npk σ))), (5, Value.long (sumF σ)), (0, Value.ref sc), (1, Value.ref (A 0 0)), (2, Value.ref (A 60 0)), (3, Value.int (nI (nrl σ)))]) dL_law_800 rfl (by decide) rfl ?_
    refine pw_aload_n (pc2 := 803) dL_law_802 rfl rfl 4 rfl (by first | exact rf_ref _ | exact rf_opt _ | exact rf_nul) ?_
    refine pw_iconst (pc2 := 804) (v := 3) dL_law_803 rfl (by decide) ?_
    refine PW.widen (kc' := 396 + 17) (ks' := 2376 + 108) (by omega) (by omega) ?_
    refine pw_lookS (kc := 396) (ks := 2376) (pc2 := 807) (z_pack W4 (by decide)) cs_L_179 rfl dL_law_804 rfl (by omega) rfl (by first | decide | simp [cat_rf, Value.category]) (fun h5 W5 => ?_)
    refine pw_sipush (pc2 := 810) (v := (-1001)) dL_law_807 rfl (by decide) ?_
    refine pw_icmp_ne (tgt := 1060) (pc2 := 813) dL_law_810 (by decide) rfl (fun c810 => by exact absurd (by decide) c810) (fun _ => ?_)
    refine pw_aload_n (pc2 := 814) dL_law_813 rfl rfl 4 rfl (by first | exact rf_ref _ | exact rf_opt _ | exact rf_nul) ?_
    refine pw_iconst (pc2 := 815) (v := (-1)) dL_law_814 rfl (by decide) ?_
    refine PW.widen (kc' := 378 + 17) (ks' := 2268 + 108) (by omega) (by omega) ?_
    refine pw_lookS (kc := 378) (ks := 2268) (pc2 := 818) (z_pack W5 (by decide)) cs_L_179 rfl dL_law_815 rfl (by omega) rfl (by first | decide | simp [cat_rf, Value.category]) (fun h6 W6 => ?_)
    refine pw_sipush (pc2 := 821) (v := (-1001)) dL_law_818 rfl (by decide) ?_
    refine pw_icmp_ne (tgt := 1060) (pc2 := 824) dL_law_821 (by decide) rfl (fun c821 => by exact absurd (by decide) c821) (fun _ => ?_)
    refine pw_aload_n (pc2 := 825) dL_law_824 rfl rfl 4 rfl (by first | exact rf_ref _ | exact rf_opt _ | exact rf_nul) ?_
    refine pw_iload (pc2 := 827) dL_law_825 rfl 1 rfl ?_
    refine pw_sipush (pc2 := 830) (v := 1000) dL_law_827 rfl (by decide) ?_
    refine pw_iconst (pc2 := 831) (v := 0) dL_law_830 rfl (by decide) ?_
    refine PW.widen (kc' := 376 + 2) (ks' := 2256 + 12) (by omega) (by omega) ?_
    refine pw_lookS (kc := 376) (ks := 2256) (pc2 := 834) (z_src1 W6 hx) cs_L_183 rfl dL_law_831 rfl (by omega) rfl (by first | decide | simp [cat_rf, Value.category]) (fun h7 W7 => ?_)
    refine pw_sipush (pc2 := 837) (v := (-1001)) dL_law_834 rfl (by decide) ?_
    refine pw_icmp_ne (tgt := 1060) (pc2 := 840) dL_law_837 (by decide) rfl (fun c837 => by exact absurd (by decide) c837) (fun _ => ?_)
    refine pw_iload (pc2 := 842) dL_law_840 rfl 1 rfl ?_
    refine pw_if_le (tgt := 860) (pc2 := 845) dL_law_842 (by decide) rfl (fun _ => ?_) (fun c842 => by exact absurd (q0) c842)
    refine pw_iload (pc2 := 862) dL_law_860 rfl 1 rfl ?_
    refine pw_if_le (tgt := 878) (pc2 := 865) dL_law_862 (by decide) rfl (fun _ => ?_) (fun c862 => by exact absurd (q0) c862)
    refine pw_aload_n (pc2 := 879) dL_law_878 rfl rfl 4 rfl (by first | exact rf_ref _ | exact rf_opt _ | exact rf_nul) ?_
    refine pw_iload (pc2 := 881) dL_law_879 rfl 1 rfl ?_
    refine pw_iconst (pc2 := 882) (v := 0) dL_law_881 rfl (by decide) ?_
    refine pw_iconst (pc2 := 883) (v := 0) dL_law_882 rfl (by decide) ?_
    refine pw_iconst (pc2 := 884) (v := 0) dL_law_883 rfl (by decide) ?_
    refine PW.widen (kc' := 373 + 3) (ks' := 2238 + 18) (by omega) (by omega) ?_
    refine pw_lookS (kc := 373) (ks := 2238) (pc2 := 887) (z_nd1 W7 (by decide) (fun z => hx z.1)) cs_L_186 rfl dL_law_884 rfl (by omega) rfl (by first | decide | simp [cat_rf, Value.category]) (fun h8 W8 => ?_)
    refine pw_sipush (pc2 := 890) (v := (-1001)) dL_law_887 rfl (by decide) ?_
    refine pw_icmp_ne (tgt := 1060) (pc2 := 893) dL_law_890 (by decide) rfl (fun c890 => by exact absurd (by decide) c890) (fun _ => ?_)
    refine pw_aload_n (pc2 := 894) dL_law_893 rfl rfl 4 rfl (by first | exact rf_ref _ | exact rf_opt _ | exact rf_nul) ?_
    refine pw_iconst (pc2 := 895) (v := 0) dL_law_894 rfl (by decide) ?_
    refine pw_iload (pc2 := 897) dL_law_895 rfl 1 rfl ?_
    refine pw_bipush (pc2 := 899) (v := 100) dL_law_897 rfl (by decide) ?_
    refine pw_bipush (pc2 := 901) (v := 100) dL_law_899 rfl (by decide) ?_
    refine PW.widen (kc' := 370 + 3) (ks' := 2220 + 18) (by omega) (by omega) ?_
    refine pw_lookS (kc := 370) (ks := 2220) (pc2 := 904) (z_nd1 W8 (by decide) (fun z => hx z.2)) cs_L_186 rfl dL_law_901 rfl (by omega) rfl (by first | decide | simp [cat_rf, Value.category]) (fun h9 W9 => ?_)
    refine pw_sipush (pc2 := 907) (v := (-1001)) dL_law_904 rfl (by decide) ?_
    refine pw_icmp_ne (tgt := 1060) (pc2 := 910) dL_law_907 (by decide) rfl (fun c907 => by exact absurd (by decide) c907) (fun _ => ?_)
    refine pw_iload (pc2 := 912) dL_law_910 rfl 1 rfl ?_
    refine pw_if_le (tgt := 931) (pc2 := 915) dL_law_912 (by decide) rfl (fun _ => ?_) (fun c912 => by exact absurd (q0) c912)
    refine pw_iload (pc2 := 933) dL_law_931 rfl 1 rfl ?_
    refine pw_iconst (pc2 := 934) (v := 1) dL_law_933 rfl (by decide) ?_
    refine pw_icmp_le (tgt := 953) (pc2 := 937) dL_law_934 (by decide) rfl (fun _ => ?_) (fun c934 => by exact absurd (q1) c934)
    refine pw_iload (pc2 := 955) dL_law_953 rfl 1 rfl ?_
    refine pw_iconst (pc2 := 956) (v := 1) dL_law_955 rfl (by decide) ?_
    refine pw_icmp_le (tgt := 975) (pc2 := 959) dL_law_956 (by decide) rfl (fun _ => ?_) (fun c956 => by exact absurd (q1) c956)
    refine pw_iload (pc2 := 977) dL_law_975 rfl 1 rfl ?_
    refine pw_iconst (pc2 := 978) (v := 1) dL_law_977 rfl (by decide) ?_
    refine pw_icmp_le (tgt := 998) (pc2 := 981) dL_law_978 (by decide) rfl (fun _ => ?_) (fun c978 => by exact absurd (q1) c978)
    refine pw_aload_n (pc2 := 999) dL_law_998 rfl rfl 4 rfl (by first | exact rf_ref _ | exact rf_opt _ | exact rf_nul) ?_
    refine pw_iload (pc2 := 1001) dL_law_999 rfl 1 rfl ?_
    refine pw_iconst (pc2 := 1002) (v := 0) dL_law_1001 rfl (by decide) ?_
    refine pw_iconst (pc2 := 1003) (v := (-1)) dL_law_1002 rfl (by decide) ?_
    refine pw_iconst (pc2 := 1004) (v := 0) dL_law_1003 rfl (by decide) ?_
    refine PW.widen (kc' := 367 + 3) (ks' := 2202 + 18) (by omega) (by omega) ?_
    refine pw_lookS (kc := 367) (ks := 2202) (pc2 := 1007) (z_dn1 W9 (fun z => hx z.1)) cs_L_186 rfl dL_law_1004 rfl (by omega) rfl (by first | decide | simp [cat_rf, Value.category]) (fun h10 W10 => ?_)
    refine pw_sipush (pc2 := 1010) (v := (-1001)) dL_law_1007 rfl (by decide) ?_
    refine pw_icmp_ne (tgt := 1060) (pc2 := 1013) dL_law_1010 (by decide) rfl (fun c1010 => by exact absurd (by decide) c1010) (fun _ => ?_)
    refine pw_iload (pc2 := 1015) dL_law_1013 rfl 1 rfl ?_
    refine pw_if_le (tgt := 1032) (pc2 := 1018) dL_law_1015 (by decide) rfl (fun _ => ?_) (fun c1015 => by exact absurd (q0) c1015)
    refine pw_aload_n (pc2 := 1033) dL_law_1032 rfl rfl 4 rfl (by first | exact rf_ref _ | exact rf_opt _ | exact rf_nul) ?_
    refine pw_iload (pc2 := 1035) dL_law_1033 rfl 1 rfl ?_
    refine pw_iconst (pc2 := 1036) (v := 0) dL_law_1035 rfl (by decide) ?_
    refine pw_iconst (pc2 := 1037) (v := 0) dL_law_1036 rfl (by decide) ?_
    refine PW.widen (kc' := 364 + 3) (ks' := 2184 + 18) (by omega) (by omega) ?_
    refine pw_lookS (kc := 364) (ks := 2184) (pc2 := 1040) (x_cho0 W10 (fun z => hx z.1)) cs_L_149 rfl dL_law_1037 rfl (by omega) rfl (by first | decide | simp [cat_rf, Value.category]) (fun h11 W11 => ?_)
    refine pw_sipush (pc2 := 1043) (v := (-1001)) dL_law_1040 rfl (by decide) ?_
    refine pw_icmp_ne (tgt := 1060) (pc2 := 1046) dL_law_1043 (by decide) rfl (fun c1043 => by exact absurd (by decide) c1043) (fun _ => ?_)
    refine pw_aload_n (pc2 := 1047) dL_law_1046 rfl rfl 4 rfl (by first | exact rf_ref _ | exact rf_opt _ | exact rf_nul) ?_
    refine pw_iconst (pc2 := 1048) (v := 0) dL_law_1047 rfl (by decide) ?_
    refine pw_iload (pc2 := 1050) dL_law_1048 rfl 1 rfl ?_
    refine pw_iconst (pc2 := 1051) (v := 1) dL_law_1050 rfl (by decide) ?_
    refine PW.widen (kc' := 361 + 3) (ks' := 2166 + 18) (by omega) (by omega) ?_
    refine pw_lookS (kc := 361) (ks := 2166) (pc2 := 1054) (x_cho1 W11 HJ (fun z => hx z.2)) cs_L_149 rfl dL_law_1051 rfl (by omega) rfl (by first | decide | simp [cat_rf, Value.category]) (fun h12 W12 => ?_)
    refine pw_sipush (pc2 := 1057) (v := (-1001)) dL_law_1054 rfl (by decide) ?_
    refine pw_icmp_eq (tgt := 1062) (pc2 := 1060) dL_law_1057 (by decide) rfl (fun _ => ?_) (fun c1057 => by exact absurd (by decide) c1057)
    refine pw_iconst (pc2 := 1063) (v := 0) dL_law_1062 rfl (by decide) ?_
    refine pw_istore (pc2 := 1065) (L2 := [(9, Value.int 0), (8, Value.int (nI (nts σ))), (7, Value.int (nI (npk σ))), (5, Value.long (sumF σ)), (0, Value.ref sc), (1, Value.ref (A 0 0)), (2, Value.ref (A 60 0)), (3, Value.int (nI (nrl σ)))]) dL_law_1063 rfl (by decide) rfl ?_
    refine pw_iload (pc2 := 1067) dL_law_1065 rfl 0 rfl ?_
    refine pw_bipush (pc2 := 1069) (v := 6) dL_law_1067 rfl (by decide) ?_
    refine pw_icmp_ge (tgt := 1107) (pc2 := 1072) dL_law_1069 (by decide) rfl (fun c1069 => by exact absurd c1069 (by decide)) (fun _ => ?_)
    refine pw_aload_n (pc2 := 1073) dL_law_1072 rfl rfl 5 rfl (by first | exact rf_ref _ | exact rf_opt _ | exact rf_nul) ?_
    refine pw_iload (pc2 := 1075) dL_law_1073 rfl 2 rfl ?_
    refine pw_iload (pc2 := 1077) dL_law_1075 rfl 0 rfl ?_
    refine PW.widen (kc' := 359 + 2) (ks' := 2154 + 12) (by omega) (by omega) ?_
    refine pw_lookS (kc := 359) (ks := 2154) (pc2 := 1080) (z_of0 W12 hx) cs_L_109 rfl dL_law_1077 rfl (by omega) rfl (by first | decide | simp [cat_rf, Value.category]) (fun h13 W13 => ?_)
    refine pw_sipush (pc2 := 1083) (v := (-1001)) dL_law_1080 rfl (by decide) ?_
    refine pw_icmp_ne (tgt := 1099) (pc2 := 1086) dL_law_1083 (by decide) rfl (fun c1083 => by exact absurd (by decide) c1083) (fun _ => ?_)
    refine pw_aload_n (pc2 := 1087) dL_law_1086 rfl rfl 5 rfl (by first | exact rf_ref _ | exact rf_opt _ | exact rf_nul) ?_
    refine pw_iconst (pc2 := 1088) (v := (-1)) dL_law_1087 rfl (by decide) ?_
    refine pw_iload (pc2 := 1090) dL_law_1088 rfl 0 rfl ?_
    refine PW.widen (kc' := 357 + 2) (ks' := 2142 + 12) (by omega) (by omega) ?_
    refine pw_lookS (kc := 357) (ks := 2142) (pc2 := 1093) (z_of0 W13 neg_in) cs_L_109 rfl dL_law_1090 rfl (by omega) rfl (by first | decide | simp [cat_rf, Value.category]) (fun h14 W14 => ?_)
    refine pw_sipush (pc2 := 1096) (v := (-1001)) dL_law_1093 rfl (by decide) ?_
    refine pw_icmp_eq (tgt := 1101) (pc2 := 1099) dL_law_1096 (by decide) rfl (fun _ => ?_) (fun c1096 => by exact absurd (by decide) c1096)
    refine pw_iinc (pc2 := 1104) (v := 1) (L2 := [(9, Value.int 1), (8, Value.int (nI (nts σ))), (7, Value.int (nI (npk σ))), (5, Value.long (sumF σ)), (0, Value.ref sc), (1, Value.ref (A 0 0)), (2, Value.ref (A 60 0)), (3, Value.int (nI (nrl σ)))]) dL_law_1101 rfl 0 rfl (by decide) (by decide) rfl ?_
    refine pw_goto (tgt := 1065) dL_law_1104 (by decide) ?_
    refine pw_iload (pc2 := 1067) dL_law_1065 rfl 0 rfl ?_
    refine pw_bipush (pc2 := 1069) (v := 6) dL_law_1067 rfl (by decide) ?_
    refine pw_icmp_ge (tgt := 1107) (pc2 := 1072) dL_law_1069 (by decide) rfl (fun c1069 => by exact absurd c1069 (by decide)) (fun _ => ?_)
    refine pw_aload_n (pc2 := 1073) dL_law_1072 rfl rfl 5 rfl (by first | exact rf_ref _ | exact rf_opt _ | exact rf_nul) ?_
    refine pw_iload (pc2 := 1075) dL_law_1073 rfl 2 rfl ?_
    refine pw_iload (pc2 := 1077) dL_law_1075 rfl 0 rfl ?_
    refine PW.widen (kc' := 354 + 3) (ks' := 2124 + 18) (by omega) (by omega) ?_
    refine pw_lookS (kc := 354) (ks := 2124) (pc2 := 1080) (z_of1 W14 HJ hx) cs_L_109 rfl dL_law_1077 rfl (by omega) rfl (by first | decide | simp [cat_rf, Value.category]) (fun h15 W15 => ?_)
    refine pw_sipush (pc2 := 1083) (v := (-1001)) dL_law_1080 rfl (by decide) ?_
    refine pw_icmp_ne (tgt := 1099) (pc2 := 1086) dL_law_1083 (by decide) rfl (fun c1083 => by exact absurd (by decide) c1083) (fun _ => ?_)
    refine pw_aload_n (pc2 := 1087) dL_law_1086 rfl rfl 5 rfl (by first | exact rf_ref _ | exact rf_opt _ | exact rf_nul) ?_
    refine pw_iconst (pc2 := 1088) (v := (-1)) dL_law_1087 rfl (by decide) ?_
    refine pw_iload (pc2 := 1090) dL_law_1088 rfl 0 rfl ?_
    refine PW.widen (kc' := 351 + 3) (ks' := 2106 + 18) (by omega) (by omega) ?_
    refine pw_lookS (kc := 351) (ks := 2106) (pc2 := 1093) (z_of1 W15 HJ neg_in) cs_L_109 rfl dL_law_1090 rfl (by omega) rfl (by first | decide | simp [cat_rf, Value.category]) (fun h16 W16 => ?_)
    refine pw_sipush (pc2 := 1096) (v := (-1001)) dL_law_1093 rfl (by decide) ?_
    refine pw_icmp_eq (tgt := 1101) (pc2 := 1099) dL_law_1096 (by decide) rfl (fun _ => ?_) (fun c1096 => by exact absurd (by decide) c1096)
    refine pw_iinc (pc2 := 1104) (v := 2) (L2 := [(9, Value.int 2), (8, Value.int (nI (nts σ))), (7, Value.int (nI (npk σ))), (5, Value.long (sumF σ)), (0, Value.ref sc), (1, Value.ref (A 0 0)), (2, Value.ref (A 60 0)), (3, Value.int (nI (nrl σ)))]) dL_law_1101 rfl 0 rfl (by decide) (by decide) rfl ?_
    refine pw_goto (tgt := 1065) dL_law_1104 (by decide) ?_
    refine pw_iload (pc2 := 1067) dL_law_1065 rfl 0 rfl ?_
    refine pw_bipush (pc2 := 1069) (v := 6) dL_law_1067 rfl (by decide) ?_
    refine pw_icmp_ge (tgt := 1107) (pc2 := 1072) dL_law_1069 (by decide) rfl (fun c1069 => by exact absurd c1069 (by decide)) (fun _ => ?_)
    refine pw_aload_n (pc2 := 1073) dL_law_1072 rfl rfl 5 rfl (by first | exact rf_ref _ | exact rf_opt _ | exact rf_nul) ?_
    refine pw_iload (pc2 := 1075) dL_law_1073 rfl 2 rfl ?_
    refine pw_iload (pc2 := 1077) dL_law_1075 rfl 0 rfl ?_
    refine PW.widen (kc' := 350 + 1) (ks' := 2100 + 6) (by omega) (by omega) ?_
    refine pw_lookS (kc := 350) (ks := 2100) (pc2 := 1080) (x_of2 W16 HJ hx) cs_L_109 rfl dL_law_1077 rfl (by omega) rfl (by first | decide | simp [cat_rf, Value.category]) (fun h17 W17 => ?_)
    refine pw_sipush (pc2 := 1083) (v := (-1001)) dL_law_1080 rfl (by decide) ?_
    refine pw_icmp_ne (tgt := 1099) (pc2 := 1086) dL_law_1083 (by decide) rfl (fun c1083 => by exact absurd (by decide) c1083) (fun _ => ?_)
    refine pw_aload_n (pc2 := 1087) dL_law_1086 rfl rfl 5 rfl (by first | exact rf_ref _ | exact rf_opt _ | exact rf_nul) ?_
    refine pw_iconst (pc2 := 1088) (v := (-1)) dL_law_1087 rfl (by decide) ?_
    refine pw_iload (pc2 := 1090) dL_law_1088 rfl 0 rfl ?_
    refine PW.widen (kc' := 349 + 1) (ks' := 2094 + 6) (by omega) (by omega) ?_
    refine pw_lookS (kc := 349) (ks := 2094) (pc2 := 1093) (x_of2 W17 HJ neg_in) cs_L_109 rfl dL_law_1090 rfl (by omega) rfl (by first | decide | simp [cat_rf, Value.category]) (fun h18 W18 => ?_)
    refine pw_sipush (pc2 := 1096) (v := (-1001)) dL_law_1093 rfl (by decide) ?_
    refine pw_icmp_eq (tgt := 1101) (pc2 := 1099) dL_law_1096 (by decide) rfl (fun _ => ?_) (fun c1096 => by exact absurd (by decide) c1096)
    refine pw_iinc (pc2 := 1104) (v := 3) (L2 := [(9, Value.int 3), (8, Value.int (nI (nts σ))), (7, Value.int (nI (npk σ))), (5, Value.long (sumF σ)), (0, Value.ref sc), (1, Value.ref (A 0 0)), (2, Value.ref (A 60 0)), (3, Value.int (nI (nrl σ)))]) dL_law_1101 rfl 0 rfl (by decide) (by decide) rfl ?_
    refine pw_goto (tgt := 1065) dL_law_1104 (by decide) ?_
    refine pw_iload (pc2 := 1067) dL_law_1065 rfl 0 rfl ?_
    refine pw_bipush (pc2 := 1069) (v := 6) dL_law_1067 rfl (by decide) ?_
    refine pw_icmp_ge (tgt := 1107) (pc2 := 1072) dL_law_1069 (by decide) rfl (fun c1069 => by exact absurd c1069 (by decide)) (fun _ => ?_)
    refine pw_aload_n (pc2 := 1073) dL_law_1072 rfl rfl 5 rfl (by first | exact rf_ref _ | exact rf_opt _ | exact rf_nul) ?_
    refine pw_iload (pc2 := 1075) dL_law_1073 rfl 2 rfl ?_
    refine pw_iload (pc2 := 1077) dL_law_1075 rfl 0 rfl ?_
    refine PW.widen (kc' := 348 + 1) (ks' := 2088 + 6) (by omega) (by omega) ?_
    refine pw_lookS (kc := 348) (ks := 2088) (pc2 := 1080) (x_of3 W18 hx) cs_L_109 rfl dL_law_1077 rfl (by omega) rfl (by first | decide | simp [cat_rf, Value.category]) (fun h19 W19 => ?_)
    refine pw_sipush (pc2 := 1083) (v := (-1001)) dL_law_1080 rfl (by decide) ?_
    refine pw_icmp_ne (tgt := 1099) (pc2 := 1086) dL_law_1083 (by decide) rfl (fun c1083 => by exact absurd (by decide) c1083) (fun _ => ?_)
    refine pw_aload_n (pc2 := 1087) dL_law_1086 rfl rfl 5 rfl (by first | exact rf_ref _ | exact rf_opt _ | exact rf_nul) ?_
    refine pw_iconst (pc2 := 1088) (v := (-1)) dL_law_1087 rfl (by decide) ?_
    refine pw_iload (pc2 := 1090) dL_law_1088 rfl 0 rfl ?_
    refine PW.widen (kc' := 347 + 1) (ks' := 2082 + 6) (by omega) (by omega) ?_
    refine pw_lookS (kc := 347) (ks := 2082) (pc2 := 1093) (x_of3 W19 neg_in) cs_L_109 rfl dL_law_1090 rfl (by omega) rfl (by first | decide | simp [cat_rf, Value.category]) (fun h20 W20 => ?_)
    refine pw_sipush (pc2 := 1096) (v := (-1001)) dL_law_1093 rfl (by decide) ?_
    refine pw_icmp_eq (tgt := 1101) (pc2 := 1099) dL_law_1096 (by decide) rfl (fun _ => ?_) (fun c1096 => by exact absurd (by decide) c1096)
    refine pw_iinc (pc2 := 1104) (v := 4) (L2 := [(9, Value.int 4), (8, Value.int (nI (nts σ))), (7, Value.int (nI (npk σ))), (5, Value.long (sumF σ)), (0, Value.ref sc), (1, Value.ref (A 0 0)), (2, Value.ref (A 60 0)), (3, Value.int (nI (nrl σ)))]) dL_law_1101 rfl 0 rfl (by decide) (by decide) rfl ?_
    refine pw_goto (tgt := 1065) dL_law_1104 (by decide) ?_
    refine pw_iload (pc2 := 1067) dL_law_1065 rfl 0 rfl ?_
    refine pw_bipush (pc2 := 1069) (v := 6) dL_law_1067 rfl (by decide) ?_
    refine pw_icmp_ge (tgt := 1107) (pc2 := 1072) dL_law_1069 (by decide) rfl (fun c1069 => by exact absurd c1069 (by decide)) (fun _ => ?_)
    refine pw_aload_n (pc2 := 1073) dL_law_1072 rfl rfl 5 rfl (by first | exact rf_ref _ | exact rf_opt _ | exact rf_nul) ?_
    refine pw_iload (pc2 := 1075) dL_law_1073 rfl 2 rfl ?_
    refine pw_iload (pc2 := 1077) dL_law_1075 rfl 0 rfl ?_
    refine PW.widen (kc' := 346 + 1) (ks' := 2076 + 6) (by omega) (by omega) ?_
    refine pw_lookS (kc := 346) (ks := 2076) (pc2 := 1080) (x_of4 W20 hx) cs_L_109 rfl dL_law_1077 rfl (by omega) rfl (by first | decide | simp [cat_rf, Value.category]) (fun h21 W21 => ?_)
    refine pw_sipush (pc2 := 1083) (v := (-1001)) dL_law_1080 rfl (by decide) ?_
    refine pw_icmp_ne (tgt := 1099) (pc2 := 1086) dL_law_1083 (by decide) rfl (fun c1083 => by exact absurd (by decide) c1083) (fun _ => ?_)
    refine pw_aload_n (pc2 := 1087) dL_law_1086 rfl rfl 5 rfl (by first | exact rf_ref _ | exact rf_opt _ | exact rf_nul) ?_
    refine pw_iconst (pc2 := 1088) (v := (-1)) dL_law_1087 rfl (by decide) ?_
    refine pw_iload (pc2 := 1090) dL_law_1088 rfl 0 rfl ?_
    refine PW.widen (kc' := 345 + 1) (ks' := 2070 + 6) (by omega) (by omega) ?_
    refine pw_lookS (kc := 345) (ks := 2070) (pc2 := 1093) (x_of4 W21 neg_in) cs_L_109 rfl dL_law_1090 rfl (by omega) rfl (by first | decide | simp [cat_rf, Value.category]) (fun h22 W22 => ?_)
    refine pw_sipush (pc2 := 1096) (v := (-1001)) dL_law_1093 rfl (by decide) ?_
    refine pw_icmp_eq (tgt := 1101) (pc2 := 1099) dL_law_1096 (by decide) rfl (fun _ => ?_) (fun c1096 => by exact absurd (by decide) c1096)
    refine pw_iinc (pc2 := 1104) (v := 5) (L2 := [(9, Value.int 5), (8, Value.int (nI (nts σ))), (7, Value.int (nI (npk σ))), (5, Value.long (sumF σ)), (0, Value.ref sc), (1, Value.ref (A 0 0)), (2, Value.ref (A 60 0)), (3, Value.int (nI (nrl σ)))]) dL_law_1101 rfl 0 rfl (by decide) (by decide) rfl ?_
    refine pw_goto (tgt := 1065) dL_law_1104 (by decide) ?_
    refine pw_iload (pc2 := 1067) dL_law_1065 rfl 0 rfl ?_
    refine pw_bipush (pc2 := 1069) (v := 6) dL_law_1067 rfl (by decide) ?_
    refine pw_icmp_ge (tgt := 1107) (pc2 := 1072) dL_law_1069 (by decide) rfl (fun c1069 => by exact absurd c1069 (by decide)) (fun _ => ?_)
    refine pw_aload_n (pc2 := 1073) dL_law_1072 rfl rfl 5 rfl (by first | exact rf_ref _ | exact rf_opt _ | exact rf_nul) ?_
    refine pw_iload (pc2 := 1075) dL_law_1073 rfl 2 rfl ?_
    refine pw_iload (pc2 := 1077) dL_law_1075 rfl 0 rfl ?_
    refine PW.widen (kc' := 326 + 9) (ks' := 1956 + 112) (by omega) (by omega) ?_
    refine pw_lookS (kc := 326) (ks := 1956) (pc2 := 1080) (z_publ W22 hx) cs_L_109 rfl dL_law_1077 rfl (by omega) rfl (by first | decide | simp [cat_rf, Value.category]) (fun h23 W23 => ?_)
    refine pw_sipush (pc2 := 1083) (v := (-1001)) dL_law_1080 rfl (by decide) ?_
    refine pw_icmp_ne (tgt := 1099) (pc2 := 1086) dL_law_1083 (by decide) rfl (fun c1083 => by exact absurd (by decide) c1083) (fun _ => ?_)
    refine pw_aload_n (pc2 := 1087) dL_law_1086 rfl rfl 5 rfl (by first | exact rf_ref _ | exact rf_opt _ | exact rf_nul) ?_
    refine pw_iconst (pc2 := 1088) (v := (-1)) dL_law_1087 rfl (by decide) ?_
    refine pw_iload (pc2 := 1090) dL_law_1088 rfl 0 rfl ?_
    refine PW.widen (kc' := 307 + 9) (ks' := 1842 + 112) (by omega) (by omega) ?_
    refine pw_lookS (kc := 307) (ks := 1842) (pc2 := 1093) (z_publ W23 neg_in) cs_L_109 rfl dL_law_1090 rfl (by omega) rfl (by first | decide | simp [cat_rf, Value.category]) (fun h24 W24 => ?_)
    refine pw_sipush (pc2 := 1096) (v := (-1001)) dL_law_1093 rfl (by decide) ?_
    refine pw_icmp_eq (tgt := 1101) (pc2 := 1099) dL_law_1096 (by decide) rfl (fun _ => ?_) (fun c1096 => by exact absurd (by decide) c1096)
    refine pw_iinc (pc2 := 1104) (v := 6) (L2 := [(9, Value.int 6), (8, Value.int (nI (nts σ))), (7, Value.int (nI (npk σ))), (5, Value.long (sumF σ)), (0, Value.ref sc), (1, Value.ref (A 0 0)), (2, Value.ref (A 60 0)), (3, Value.int (nI (nrl σ)))]) dL_law_1101 rfl 0 rfl (by decide) (by decide) rfl ?_
    refine pw_goto (tgt := 1065) dL_law_1104 (by decide) ?_
    refine pw_iload (pc2 := 1067) dL_law_1065 rfl 0 rfl ?_
    refine pw_bipush (pc2 := 1069) (v := 6) dL_law_1067 rfl (by decide) ?_
    refine pw_icmp_ge (tgt := 1107) (pc2 := 1072) dL_law_1069 (by decide) rfl (fun _ => ?_) (fun c1069 => by exact absurd (by decide) c1069)
    refine pw_aload_n (pc2 := 1108) dL_law_1107 rfl rfl 5 rfl (by first | exact rf_ref _ | exact rf_opt _ | exact rf_nul) ?_
    refine pw_iload (pc2 := 1110) dL_law_1108 rfl 2 rfl ?_
    refine pw_iconst (pc2 := 1111) (v := 0) dL_law_1110 rfl (by decide) ?_
    refine PW.widen (kc' := 297 + 4) (ks' := 1782 + 59) (by omega) (by omega) ?_
    refine pw_lookS (kc := 297) (ks := 1782) (pc2 := 1114) (z_at1 W24 hx) cs_L_189 rfl dL_law_1111 rfl (by omega) rfl (by first | decide | simp [cat_rf, Value.category]) (fun h25 W25 => ?_)
    refine pw_sipush (pc2 := 1117) (v := (-1001)) dL_law_1114 rfl (by decide) ?_
    refine pw_icmp_ne (tgt := 1294) (pc2 := 1120) dL_law_1117 (by decide) rfl (fun c1117 => by exact absurd (by decide) c1117) (fun _ => ?_)
    refine pw_iload (pc2 := 1122) dL_law_1120 rfl 2 rfl ?_
    refine pw_if_le (tgt := 1137) (pc2 := 1125) dL_law_1122 (by decide) rfl (fun _ => ?_) (fun c1122 => by exact absurd (q0) c1122)
    refine pw_iload (pc2 := 1139) dL_law_1137 rfl 2 rfl ?_
    refine pw_if_le (tgt := 1155) (pc2 := 1142) dL_law_1139 (by decide) rfl (fun _ => ?_) (fun c1139 => by exact absurd (q0) c1139)
    refine pw_aload_n (pc2 := 1156) dL_law_1155 rfl rfl 5 rfl (by first | exact rf_ref _ | exact rf_opt _ | exact rf_nul) ?_
    refine pw_iload (pc2 := 1158) dL_law_1156 rfl 1 rfl ?_
    refine pw_iconst (pc2 := 1159) (v := 0) dL_law_1158 rfl (by decide) ?_
    refine PW.widen (kc' := 296 + 1) (ks' := 1776 + 6) (by omega) (by omega) ?_
    refine pw_lookS (kc := 296) (ks := 1776) (pc2 := 1162) (x_ts0 W25 HJ ht) cs_L_115 rfl dL_law_1159 rfl (by omega) rfl (by first | decide | simp [cat_rf, Value.category]) (fun h26 W26 => ?_)
    refine pw_sipush (pc2 := 1165) (v := (-1001)) dL_law_1162 rfl (by decide) ?_
    refine pw_icmp_ne (tgt := 1294) (pc2 := 1168) dL_law_1165 (by decide) rfl (fun c1165 => by exact absurd (by decide) c1165) (fun _ => ?_)
    refine pw_aload_n (pc2 := 1169) dL_law_1168 rfl rfl 5 rfl (by first | exact rf_ref _ | exact rf_opt _ | exact rf_nul) ?_
    refine pw_iconst (pc2 := 1170) (v := (-1)) dL_law_1169 rfl (by decide) ?_
    refine pw_iconst (pc2 := 1171) (v := 1) dL_law_1170 rfl (by decide) ?_
    refine PW.widen (kc' := 295 + 1) (ks' := 1770 + 6) (by omega) (by omega) ?_
    refine pw_lookS (kc := 295) (ks := 1770) (pc2 := 1174) (z_ts1 W26 neg_in) cs_L_115 rfl dL_law_1171 rfl (by omega) rfl (by first | decide | simp [cat_rf, Value.category]) (fun h27 W27 => ?_)
    refine pw_sipush (pc2 := 1177) (v := (-1001)) dL_law_1174 rfl (by decide) ?_
    refine pw_icmp_ne (tgt := 1294) (pc2 := 1180) dL_law_1177 (by decide) rfl (fun c1177 => by exact absurd (by decide) c1177) (fun _ => ?_)
    by_cases hn : nts σ = 0
    · skip
      refine pw_aload_n (pc2 := 1181) dL_law_1180 rfl rfl 5 rfl (by first | exact rf_ref _ | exact rf_opt _ | exact rf_nul) ?_
      refine PW.widen (kc' := 294 + 1) (ks' := 1764 + 6) (by omega) (by omega) ?_
      refine pw_lookS (kc := 294) (ks := 1764) (pc2 := 1184) (k_flk W27 HJ) cs_L_127 rfl dL_law_1181 rfl (by omega) rfl (by first | decide | simp [cat_rf, Value.category]) (fun h28 W28 => ?_)
      refine pw_sipush (pc2 := 1187) (v := (-1001)) dL_law_1184 rfl (by decide) ?_
      refine pw_icmp_ne (tgt := 1194) (pc2 := 1190) dL_law_1187 (by decide) rfl (fun c1187 => by exact absurd (fk_0 hn) c1187) (fun _ => ?_)
      refine pw_iconst (pc2 := 1191) (v := 1) dL_law_1190 rfl (by decide) ?_
      refine pw_goto (tgt := 1195) dL_law_1191 (by decide) ?_
      refine pw_iload (pc2 := 1197) dL_law_1195 rfl 1 rfl ?_
      refine pw_if_ne (tgt := 1204) (pc2 := 1200) dL_law_1197 (by decide) rfl (fun c1197 => by exact absurd (by rw [hn]; rfl) c1197) (fun _ => ?_)
      refine pw_iconst (pc2 := 1201) (v := 1) dL_law_1200 rfl (by decide) ?_
      refine pw_goto (tgt := 1205) dL_law_1201 (by decide) ?_
      refine pw_icmp_ne (tgt := 1294) (pc2 := 1208) dL_law_1205 (by decide) rfl (fun c1205 => by exact absurd (by decide) c1205) (fun _ => ?_)
      refine pw_aload_n (pc2 := 1209) dL_law_1208 rfl rfl 5 rfl (by first | exact rf_ref _ | exact rf_opt _ | exact rf_nul) ?_
      refine pw_bipush (pc2 := 1211) (v := 109) dL_law_1209 rfl (by decide) ?_
      refine pw_iconst (pc2 := 1212) (v := 0) dL_law_1211 rfl (by decide) ?_
      refine pw_iconst (pc2 := 1213) (v := 0) dL_law_1212 rfl (by decide) ?_
      refine PW.widen (kc' := 293 + 1) (ks' := 1758 + 6) (by omega) (by omega) ?_
      refine pw_lookS (kc := 293) (ks := 1758) (pc2 := 1216) (z_mm W28 (fun z => absurd z.1 (by decide))) cs_L_141 rfl dL_law_1213 rfl (by omega) rfl (by first | decide | simp [cat_rf, Value.category]) (fun h29 W29 => ?_)
      refine pw_sipush (pc2 := 1219) (v := (-1001)) dL_law_1216 rfl (by decide) ?_
      refine pw_icmp_ne (tgt := 1294) (pc2 := 1222) dL_law_1219 (by decide) rfl (fun c1219 => by exact absurd (by decide) c1219) (fun _ => ?_)
      refine pw_aload_n (pc2 := 1223) dL_law_1222 rfl rfl 5 rfl (by first | exact rf_ref _ | exact rf_opt _ | exact rf_nul) ?_
      refine pw_bipush (pc2 := 1225) (v := 109) dL_law_1223 rfl (by decide) ?_
      refine pw_iconst (pc2 := 1226) (v := 5) dL_law_1225 rfl (by decide) ?_
      refine pw_iconst (pc2 := 1227) (v := 0) dL_law_1226 rfl (by decide) ?_
      refine PW.widen (kc' := 292 + 1) (ks' := 1752 + 6) (by omega) (by omega) ?_
      refine pw_lookS (kc := 292) (ks := 1752) (pc2 := 1230) (z_mm W29 (fun z => absurd z.2 (by decide))) cs_L_141 rfl dL_law_1227 rfl (by omega) rfl (by first | decide | simp [cat_rf, Value.category]) (fun h30 W30 => ?_)
      refine pw_sipush (pc2 := 1233) (v := (-1001)) dL_law_1230 rfl (by decide) ?_
      refine pw_icmp_ne (tgt := 1294) (pc2 := 1236) dL_law_1233 (by decide) rfl (fun c1233 => by exact absurd (by decide) c1233) (fun _ => ?_)
      refine pw_aload_n (pc2 := 1237) dL_law_1236 rfl rfl 5 rfl (by first | exact rf_ref _ | exact rf_opt _ | exact rf_nul) ?_
      refine pw_bipush (pc2 := 1239) (v := 98) dL_law_1237 rfl (by decide) ?_
      refine pw_iconst (pc2 := 1240) (v := 3) dL_law_1239 rfl (by decide) ?_
      refine pw_iconst (pc2 := 1241) (v := 0) dL_law_1240 rfl (by decide) ?_
      refine PW.widen (kc' := 291 + 1) (ks' := 1746 + 6) (by omega) (by omega) ?_
      refine pw_lookS (kc := 291) (ks := 1746) (pc2 := 1244) (x_mon_b W30 (fun z => absurd z.2 (by decide))) cs_L_141 rfl dL_law_1241 rfl (by omega) rfl (by first | decide | simp [cat_rf, Value.category]) (fun h31 W31 => ?_)
      refine pw_sipush (pc2 := 1247) (v := (-1001)) dL_law_1244 rfl (by decide) ?_
      refine pw_icmp_ne (tgt := 1294) (pc2 := 1250) dL_law_1247 (by decide) rfl (fun c1247 => by exact absurd (by decide) c1247) (fun _ => ?_)
      refine pw_aload_n (pc2 := 1251) dL_law_1250 rfl rfl 5 rfl (by first | exact rf_ref _ | exact rf_opt _ | exact rf_nul) ?_
      refine pw_bipush (pc2 := 1253) (v := 102) dL_law_1251 rfl (by decide) ?_
      refine pw_iconst (pc2 := 1254) (v := 3) dL_law_1253 rfl (by decide) ?_
      refine pw_iconst (pc2 := 1255) (v := 1) dL_law_1254 rfl (by decide) ?_
      refine PW.widen (kc' := 289 + 2) (ks' := 1734 + 12) (by omega) (by omega) ?_
      refine pw_lookS (kc := 289) (ks := 1734) (pc2 := 1258) (z_mf W31 (fun z => absurd z.1.2 (by decide))) cs_L_141 rfl dL_law_1255 rfl (by omega) rfl (by first | decide | simp [cat_rf, Value.category]) (fun h32 W32 => ?_)
      refine pw_sipush (pc2 := 1261) (v := (-1001)) dL_law_1258 rfl (by decide) ?_
      refine pw_icmp_ne (tgt := 1294) (pc2 := 1264) dL_law_1261 (by decide) rfl (fun c1261 => by exact absurd (by decide) c1261) (fun _ => ?_)
      refine pw_aload_n (pc2 := 1265) dL_law_1264 rfl rfl 5 rfl (by first | exact rf_ref _ | exact rf_opt _ | exact rf_nul) ?_
      refine pw_bipush (pc2 := 1267) (v := 102) dL_law_1265 rfl (by decide) ?_
      refine pw_iconst (pc2 := 1268) (v := 0) dL_law_1267 rfl (by decide) ?_
      refine pw_iconst (pc2 := 1269) (v := 0) dL_law_1268 rfl (by decide) ?_
      refine PW.widen (kc' := 287 + 2) (ks' := 1722 + 12) (by omega) (by omega) ?_
      refine pw_lookS (kc := 287) (ks := 1722) (pc2 := 1272) (z_mf W32 (fun z => absurd z.2.1 (by decide))) cs_L_141 rfl dL_law_1269 rfl (by omega) rfl (by first | decide | simp [cat_rf, Value.category]) (fun h33 W33 => ?_)
      refine pw_sipush (pc2 := 1275) (v := (-1001)) dL_law_1272 rfl (by decide) ?_
      refine pw_icmp_ne (tgt := 1294) (pc2 := 1278) dL_law_1275 (by decide) rfl (fun c1275 => by exact absurd (by decide) c1275) (fun _ => ?_)
      refine pw_aload_n (pc2 := 1279) dL_law_1278 rfl rfl 5 rfl (by first | exact rf_ref _ | exact rf_opt _ | exact rf_nul) ?_
      refine pw_bipush (pc2 := 1281) (v := 102) dL_law_1279 rfl (by decide) ?_
      refine pw_iconst (pc2 := 1282) (v := 0) dL_law_1281 rfl (by decide) ?_
      refine pw_sipush (pc2 := 1285) (v := 10000) dL_law_1282 rfl (by decide) ?_
      refine PW.widen (kc' := 285 + 2) (ks' := 1710 + 12) (by omega) (by omega) ?_
      refine pw_lookS (kc := 285) (ks := 1710) (pc2 := 1288) (z_mf W33 (fun z => absurd z.2.2 (by decide))) cs_L_141 rfl dL_law_1285 rfl (by omega) rfl (by first | decide | simp [cat_rf, Value.category]) (fun h34 W34 => ?_)
      refine pw_sipush (pc2 := 1291) (v := (-1001)) dL_law_1288 rfl (by decide) ?_
      refine pw_icmp_eq (tgt := 1296) (pc2 := 1294) dL_law_1291 (by decide) rfl (fun _ => ?_) (fun c1291 => by exact absurd (by decide) c1291)
      refine pw_iconst (pc2 := 1297) (v := 0) dL_law_1296 rfl (by decide) ?_
      refine pw_istore (pc2 := 1299) (L2 := [(9, Value.int 0), (8, Value.int (nI (nts σ))), (7, Value.int (nI (npk σ))), (5, Value.long (sumF σ)), (0, Value.ref sc), (1, Value.ref (A 0 0)), (2, Value.ref (A 60 0)), (3, Value.int (nI (nrl σ)))]) dL_law_1297 rfl (by decide) rfl ?_
      refine pw_iload (pc2 := 1301) dL_law_1299 rfl 0 rfl ?_
      refine pw_iconst (pc2 := 1302) (v := 3) dL_law_1301 rfl (by decide) ?_
      refine pw_icmp_ge (tgt := 1349) (pc2 := 1305) dL_law_1302 (by decide) rfl (fun c1302 => by exact absurd c1302 (by decide)) (fun _ => ?_)
      refine pw_aload_n (pc2 := 1306) dL_law_1305 rfl rfl 5 rfl (by first | exact rf_ref _ | exact rf_opt _ | exact rf_nul) ?_
      refine pw_iload (pc2 := 1308) dL_law_1306 rfl 2 rfl ?_
      refine pw_bipush (pc2 := 1310) (v := 100) dL_law_1308 rfl (by decide) ?_
      refine pw_iload (pc2 := 1312) dL_law_1310 rfl 0 rfl ?_
      refine PW.widen (kc' := 282 + 3) (ks' := 1692 + 18) (by omega) (by omega) ?_
      refine pw_lookS (kc := 282) (ks := 1692) (pc2 := 1315) (z_rl0 W34 hx) cs_L_152 rfl dL_law_1312 rfl (by omega) rfl (by first | decide | simp [cat_rf, Value.category]) (fun h35 W35 => ?_)
      refine pw_sipush (pc2 := 1318) (v := (-1001)) dL_law_1315 rfl (by decide) ?_
      refine pw_icmp_ne (tgt := 1341) (pc2 := 1321) dL_law_1318 (by decide) rfl (fun c1318 => by exact absurd (by decide) c1318) (fun _ => ?_)
      refine pw_iload (pc2 := 1323) dL_law_1321 rfl 2 rfl ?_
      refine pw_if_le (tgt := 1343) (pc2 := 1326) dL_law_1323 (by decide) rfl (fun _ => ?_) (fun c1323 => by exact absurd (q0) c1323)
      refine pw_iinc (pc2 := 1346) (v := 1) (L2 := [(9, Value.int 1), (8, Value.int (nI (nts σ))), (7, Value.int (nI (npk σ))), (5, Value.long (sumF σ)), (0, Value.ref sc), (1, Value.ref (A 0 0)), (2, Value.ref (A 60 0)), (3, Value.int (nI (nrl σ)))]) dL_law_1343 rfl 0 rfl (by decide) (by decide) rfl ?_
      refine pw_goto (tgt := 1299) dL_law_1346 (by decide) ?_
      refine pw_iload (pc2 := 1301) dL_law_1299 rfl 0 rfl ?_
      refine pw_iconst (pc2 := 1302) (v := 3) dL_law_1301 rfl (by decide) ?_
      refine pw_icmp_ge (tgt := 1349) (pc2 := 1305) dL_law_1302 (by decide) rfl (fun c1302 => by exact absurd c1302 (by decide)) (fun _ => ?_)
      refine pw_aload_n (pc2 := 1306) dL_law_1305 rfl rfl 5 rfl (by first | exact rf_ref _ | exact rf_opt _ | exact rf_nul) ?_
      refine pw_iload (pc2 := 1308) dL_law_1306 rfl 2 rfl ?_
      refine pw_bipush (pc2 := 1310) (v := 100) dL_law_1308 rfl (by decide) ?_
      refine pw_iload (pc2 := 1312) dL_law_1310 rfl 0 rfl ?_
      refine PW.widen (kc' := 280 + 2) (ks' := 1680 + 12) (by omega) (by omega) ?_
      refine pw_lookS (kc := 280) (ks := 1680) (pc2 := 1315) (z_rl1 W35 hx) cs_L_152 rfl dL_law_1312 rfl (by omega) rfl (by first | decide | simp [cat_rf, Value.category]) (fun h36 W36 => ?_)
      refine pw_sipush (pc2 := 1318) (v := (-1001)) dL_law_1315 rfl (by decide) ?_
      refine pw_icmp_ne (tgt := 1341) (pc2 := 1321) dL_law_1318 (by decide) rfl (fun c1318 => by exact absurd (by decide) c1318) (fun _ => ?_)
      refine pw_iload (pc2 := 1323) dL_law_1321 rfl 2 rfl ?_
      refine pw_if_le (tgt := 1343) (pc2 := 1326) dL_law_1323 (by decide) rfl (fun _ => ?_) (fun c1323 => by exact absurd (q0) c1323)
      refine pw_iinc (pc2 := 1346) (v := 2) (L2 := [(9, Value.int 2), (8, Value.int (nI (nts σ))), (7, Value.int (nI (npk σ))), (5, Value.long (sumF σ)), (0, Value.ref sc), (1, Value.ref (A 0 0)), (2, Value.ref (A 60 0)), (3, Value.int (nI (nrl σ)))]) dL_law_1343 rfl 0 rfl (by decide) (by decide) rfl ?_
      refine pw_goto (tgt := 1299) dL_law_1346 (by decide) ?_
      refine pw_iload (pc2 := 1301) dL_law_1299 rfl 0 rfl ?_
      refine pw_iconst (pc2 := 1302) (v := 3) dL_law_1301 rfl (by decide) ?_
      refine pw_icmp_ge (tgt := 1349) (pc2 := 1305) dL_law_1302 (by decide) rfl (fun c1302 => by exact absurd c1302 (by decide)) (fun _ => ?_)
      refine pw_aload_n (pc2 := 1306) dL_law_1305 rfl rfl 5 rfl (by first | exact rf_ref _ | exact rf_opt _ | exact rf_nul) ?_
      refine pw_iload (pc2 := 1308) dL_law_1306 rfl 2 rfl ?_
      refine pw_bipush (pc2 := 1310) (v := 100) dL_law_1308 rfl (by decide) ?_
      refine pw_iload (pc2 := 1312) dL_law_1310 rfl 0 rfl ?_
      refine PW.widen (kc' := 276 + 4) (ks' := 1656 + 24) (by omega) (by omega) ?_
      refine pw_lookS (kc := 276) (ks := 1656) (pc2 := 1315) (z_rl2 W36 hx) cs_L_152 rfl dL_law_1312 rfl (by omega) rfl (by first | decide | simp [cat_rf, Value.category]) (fun h37 W37 => ?_)
      refine pw_sipush (pc2 := 1318) (v := (-1001)) dL_law_1315 rfl (by decide) ?_
      refine pw_icmp_ne (tgt := 1341) (pc2 := 1321) dL_law_1318 (by decide) rfl (fun c1318 => by exact absurd (by decide) c1318) (fun _ => ?_)
      refine pw_iload (pc2 := 1323) dL_law_1321 rfl 2 rfl ?_
      refine pw_if_le (tgt := 1343) (pc2 := 1326) dL_law_1323 (by decide) rfl (fun _ => ?_) (fun c1323 => by exact absurd (q0) c1323)
      refine pw_iinc (pc2 := 1346) (v := 3) (L2 := [(9, Value.int 3), (8, Value.int (nI (nts σ))), (7, Value.int (nI (npk σ))), (5, Value.long (sumF σ)), (0, Value.ref sc), (1, Value.ref (A 0 0)), (2, Value.ref (A 60 0)), (3, Value.int (nI (nrl σ)))]) dL_law_1343 rfl 0 rfl (by decide) (by decide) rfl ?_
      refine pw_goto (tgt := 1299) dL_law_1346 (by decide) ?_
      refine pw_iload (pc2 := 1301) dL_law_1299 rfl 0 rfl ?_
      refine pw_iconst (pc2 := 1302) (v := 3) dL_law_1301 rfl (by decide) ?_
      refine pw_icmp_ge (tgt := 1349) (pc2 := 1305) dL_law_1302 (by decide) rfl (fun _ => ?_) (fun c1302 => by exact absurd (by decide) c1302)
      refine pw_aload_n (pc2 := 1350) dL_law_1349 rfl rfl 5 rfl (by first | exact rf_ref _ | exact rf_opt _ | exact rf_nul) ?_
      refine pw_iload (pc2 := 1352) dL_law_1350 rfl 2 rfl ?_
      refine pw_bipush (pc2 := 1354) (v := 100) dL_law_1352 rfl (by decide) ?_
      refine pw_bipush (pc2 := 1356) (v := 10) dL_law_1354 rfl (by decide) ?_
      refine PW.widen (kc' := 273 + 3) (ks' := 1638 + 18) (by omega) (by omega) ?_
      refine pw_lookS (kc := 273) (ks := 1638) (pc2 := 1359) (z_rlL W37 hx) cs_L_152 rfl dL_law_1356 rfl (by omega) rfl (by first | decide | simp [cat_rf, Value.category]) (fun h38 W38 => ?_)
      refine pw_sipush (pc2 := 1362) (v := (-1001)) dL_law_1359 rfl (by decide) ?_
      refine pw_icmp_ne (tgt := 1399) (pc2 := 1365) dL_law_1362 (by decide) rfl (fun c1362 => by exact absurd (by decide) c1362) (fun _ => ?_)
      refine pw_iload (pc2 := 1367) dL_law_1365 rfl 2 rfl ?_
      refine pw_if_eq (tgt := 1385) (pc2 := 1370) dL_law_1367 (by decide) rfl (fun _ => ?_) (fun c1367 => by exact absurd (qz) c1367)
      refine pw_aload_n (pc2 := 1386) dL_law_1385 rfl rfl 5 rfl (by first | exact rf_ref _ | exact rf_opt _ | exact rf_nul) ?_
      refine PW.widen (kc' := 143 + 130) (ks' := 858 + 780) (by omega) (by omega) ?_
      refine pw_lookS (kc := 143) (ks := 858) (pc2 := 1389) (c_sum G _ W38 HJ) cs_L_175 rfl dL_law_1386 rfl (by omega) rfl (by first | decide | simp [cat_rf, Value.category]) (fun h39 W39 => ?_)
      refine pw_lload (pc2 := 1391) dL_law_1389 rfl 3 rfl ?_
      refine pw_lcmp (pc2 := 1392) dL_law_1391 rfl ?_
      refine pw_if_ne (tgt := 1399) (pc2 := 1395) dL_law_1392 (by decide) rfl (fun c1392 => by exact absurd (lcmp_eq rfl) c1392) (fun _ => ?_)
      refine pw_iconst (pc2 := 1396) (v := 1) dL_law_1395 rfl (by decide) ?_
      refine pw_goto (tgt := 1400) dL_law_1396 (by decide) ?_
      exact pw_lawret dL_law_1400
    · skip
      refine pw_aload_n (pc2 := 1181) dL_law_1180 rfl rfl 5 rfl (by first | exact rf_ref _ | exact rf_opt _ | exact rf_nul) ?_
      refine PW.widen (kc' := 294 + 1) (ks' := 1764 + 6) (by omega) (by omega) ?_
      refine pw_lookS (kc := 294) (ks := 1764) (pc2 := 1184) (k_flk W27 HJ) cs_L_127 rfl dL_law_1181 rfl (by omega) rfl (by first | decide | simp [cat_rf, Value.category]) (fun h40 W40 => ?_)
      refine pw_sipush (pc2 := 1187) (v := (-1001)) dL_law_1184 rfl (by decide) ?_
      refine pw_icmp_ne (tgt := 1194) (pc2 := 1190) dL_law_1187 (by decide) rfl (fun _ => ?_) (fun c1187 => by exact absurd c1187 (fk_n HJ hs8 hn))
      refine pw_iconst (pc2 := 1195) (v := 0) dL_law_1194 rfl (by decide) ?_
      refine pw_iload (pc2 := 1197) dL_law_1195 rfl 1 rfl ?_
      refine pw_if_ne (tgt := 1204) (pc2 := 1200) dL_law_1197 (by decide) rfl (fun _ => ?_) (fun c1197 => by exact absurd c1197 (ne_n hn (by omega)))
      refine pw_iconst (pc2 := 1205) (v := 0) dL_law_1204 rfl (by decide) ?_
      refine pw_icmp_ne (tgt := 1294) (pc2 := 1208) dL_law_1205 (by decide) rfl (fun c1205 => by exact absurd (by decide) c1205) (fun _ => ?_)
      refine pw_aload_n (pc2 := 1209) dL_law_1208 rfl rfl 5 rfl (by first | exact rf_ref _ | exact rf_opt _ | exact rf_nul) ?_
      refine pw_bipush (pc2 := 1211) (v := 109) dL_law_1209 rfl (by decide) ?_
      refine pw_iconst (pc2 := 1212) (v := 0) dL_law_1211 rfl (by decide) ?_
      refine pw_iconst (pc2 := 1213) (v := 0) dL_law_1212 rfl (by decide) ?_
      refine PW.widen (kc' := 293 + 1) (ks' := 1758 + 6) (by omega) (by omega) ?_
      refine pw_lookS (kc := 293) (ks := 1758) (pc2 := 1216) (z_mm W40 (fun z => absurd z.1 (by decide))) cs_L_141 rfl dL_law_1213 rfl (by omega) rfl (by first | decide | simp [cat_rf, Value.category]) (fun h41 W41 => ?_)
      refine pw_sipush (pc2 := 1219) (v := (-1001)) dL_law_1216 rfl (by decide) ?_
      refine pw_icmp_ne (tgt := 1294) (pc2 := 1222) dL_law_1219 (by decide) rfl (fun c1219 => by exact absurd (by decide) c1219) (fun _ => ?_)
      refine pw_aload_n (pc2 := 1223) dL_law_1222 rfl rfl 5 rfl (by first | exact rf_ref _ | exact rf_opt _ | exact rf_nul) ?_
      refine pw_bipush (pc2 := 1225) (v := 109) dL_law_1223 rfl (by decide) ?_
      refine pw_iconst (pc2 := 1226) (v := 5) dL_law_1225 rfl (by decide) ?_
      refine pw_iconst (pc2 := 1227) (v := 0) dL_law_1226 rfl (by decide) ?_
      refine PW.widen (kc' := 292 + 1) (ks' := 1752 + 6) (by omega) (by omega) ?_
      refine pw_lookS (kc := 292) (ks := 1752) (pc2 := 1230) (z_mm W41 (fun z => absurd z.2 (by decide))) cs_L_141 rfl dL_law_1227 rfl (by omega) rfl (by first | decide | simp [cat_rf, Value.category]) (fun h42 W42 => ?_)
      refine pw_sipush (pc2 := 1233) (v := (-1001)) dL_law_1230 rfl (by decide) ?_
      refine pw_icmp_ne (tgt := 1294) (pc2 := 1236) dL_law_1233 (by decide) rfl (fun c1233 => by exact absurd (by decide) c1233) (fun _ => ?_)
      refine pw_aload_n (pc2 := 1237) dL_law_1236 rfl rfl 5 rfl (by first | exact rf_ref _ | exact rf_opt _ | exact rf_nul) ?_
      refine pw_bipush (pc2 := 1239) (v := 98) dL_law_1237 rfl (by decide) ?_
      refine pw_iconst (pc2 := 1240) (v := 3) dL_law_1239 rfl (by decide) ?_
      refine pw_iconst (pc2 := 1241) (v := 0) dL_law_1240 rfl (by decide) ?_
      refine PW.widen (kc' := 291 + 1) (ks' := 1746 + 6) (by omega) (by omega) ?_
      refine pw_lookS (kc := 291) (ks := 1746) (pc2 := 1244) (x_mon_b W42 (fun z => absurd z.2 (by decide))) cs_L_141 rfl dL_law_1241 rfl (by omega) rfl (by first | decide | simp [cat_rf, Value.category]) (fun h43 W43 => ?_)
      refine pw_sipush (pc2 := 1247) (v := (-1001)) dL_law_1244 rfl (by decide) ?_
      refine pw_icmp_ne (tgt := 1294) (pc2 := 1250) dL_law_1247 (by decide) rfl (fun c1247 => by exact absurd (by decide) c1247) (fun _ => ?_)
      refine pw_aload_n (pc2 := 1251) dL_law_1250 rfl rfl 5 rfl (by first | exact rf_ref _ | exact rf_opt _ | exact rf_nul) ?_
      refine pw_bipush (pc2 := 1253) (v := 102) dL_law_1251 rfl (by decide) ?_
      refine pw_iconst (pc2 := 1254) (v := 3) dL_law_1253 rfl (by decide) ?_
      refine pw_iconst (pc2 := 1255) (v := 1) dL_law_1254 rfl (by decide) ?_
      refine PW.widen (kc' := 289 + 2) (ks' := 1734 + 12) (by omega) (by omega) ?_
      refine pw_lookS (kc := 289) (ks := 1734) (pc2 := 1258) (z_mf W43 (fun z => absurd z.1.2 (by decide))) cs_L_141 rfl dL_law_1255 rfl (by omega) rfl (by first | decide | simp [cat_rf, Value.category]) (fun h44 W44 => ?_)
      refine pw_sipush (pc2 := 1261) (v := (-1001)) dL_law_1258 rfl (by decide) ?_
      refine pw_icmp_ne (tgt := 1294) (pc2 := 1264) dL_law_1261 (by decide) rfl (fun c1261 => by exact absurd (by decide) c1261) (fun _ => ?_)
      refine pw_aload_n (pc2 := 1265) dL_law_1264 rfl rfl 5 rfl (by first | exact rf_ref _ | exact rf_opt _ | exact rf_nul) ?_
      refine pw_bipush (pc2 := 1267) (v := 102) dL_law_1265 rfl (by decide) ?_
      refine pw_iconst (pc2 := 1268) (v := 0) dL_law_1267 rfl (by decide) ?_
      refine pw_iconst (pc2 := 1269) (v := 0) dL_law_1268 rfl (by decide) ?_
      refine PW.widen (kc' := 287 + 2) (ks' := 1722 + 12) (by omega) (by omega) ?_
      refine pw_lookS (kc := 287) (ks := 1722) (pc2 := 1272) (z_mf W44 (fun z => absurd z.2.1 (by decide))) cs_L_141 rfl dL_law_1269 rfl (by omega) rfl (by first | decide | simp [cat_rf, Value.category]) (fun h45 W45 => ?_)
      refine pw_sipush (pc2 := 1275) (v := (-1001)) dL_law_1272 rfl (by decide) ?_
      refine pw_icmp_ne (tgt := 1294) (pc2 := 1278) dL_law_1275 (by decide) rfl (fun c1275 => by exact absurd (by decide) c1275) (fun _ => ?_)
      refine pw_aload_n (pc2 := 1279) dL_law_1278 rfl rfl 5 rfl (by first | exact rf_ref _ | exact rf_opt _ | exact rf_nul) ?_
      refine pw_bipush (pc2 := 1281) (v := 102) dL_law_1279 rfl (by decide) ?_
      refine pw_iconst (pc2 := 1282) (v := 0) dL_law_1281 rfl (by decide) ?_
      refine pw_sipush (pc2 := 1285) (v := 10000) dL_law_1282 rfl (by decide) ?_
      refine PW.widen (kc' := 285 + 2) (ks' := 1710 + 12) (by omega) (by omega) ?_
      refine pw_lookS (kc := 285) (ks := 1710) (pc2 := 1288) (z_mf W45 (fun z => absurd z.2.2 (by decide))) cs_L_141 rfl dL_law_1285 rfl (by omega) rfl (by first | decide | simp [cat_rf, Value.category]) (fun h46 W46 => ?_)
      refine pw_sipush (pc2 := 1291) (v := (-1001)) dL_law_1288 rfl (by decide) ?_
      refine pw_icmp_eq (tgt := 1296) (pc2 := 1294) dL_law_1291 (by decide) rfl (fun _ => ?_) (fun c1291 => by exact absurd (by decide) c1291)
      refine pw_iconst (pc2 := 1297) (v := 0) dL_law_1296 rfl (by decide) ?_
      refine pw_istore (pc2 := 1299) (L2 := [(9, Value.int 0), (8, Value.int (nI (nts σ))), (7, Value.int (nI (npk σ))), (5, Value.long (sumF σ)), (0, Value.ref sc), (1, Value.ref (A 0 0)), (2, Value.ref (A 60 0)), (3, Value.int (nI (nrl σ)))]) dL_law_1297 rfl (by decide) rfl ?_
      refine pw_iload (pc2 := 1301) dL_law_1299 rfl 0 rfl ?_
      refine pw_iconst (pc2 := 1302) (v := 3) dL_law_1301 rfl (by decide) ?_
      refine pw_icmp_ge (tgt := 1349) (pc2 := 1305) dL_law_1302 (by decide) rfl (fun c1302 => by exact absurd c1302 (by decide)) (fun _ => ?_)
      refine pw_aload_n (pc2 := 1306) dL_law_1305 rfl rfl 5 rfl (by first | exact rf_ref _ | exact rf_opt _ | exact rf_nul) ?_
      refine pw_iload (pc2 := 1308) dL_law_1306 rfl 2 rfl ?_
      refine pw_bipush (pc2 := 1310) (v := 100) dL_law_1308 rfl (by decide) ?_
      refine pw_iload (pc2 := 1312) dL_law_1310 rfl 0 rfl ?_
      refine PW.widen (kc' := 282 + 3) (ks' := 1692 + 18) (by omega) (by omega) ?_
      refine pw_lookS (kc := 282) (ks := 1692) (pc2 := 1315) (z_rl0 W46 hx) cs_L_152 rfl dL_law_1312 rfl (by omega) rfl (by first | decide | simp [cat_rf, Value.category]) (fun h47 W47 => ?_)
      refine pw_sipush (pc2 := 1318) (v := (-1001)) dL_law_1315 rfl (by decide) ?_
      refine pw_icmp_ne (tgt := 1341) (pc2 := 1321) dL_law_1318 (by decide) rfl (fun c1318 => by exact absurd (by decide) c1318) (fun _ => ?_)
      refine pw_iload (pc2 := 1323) dL_law_1321 rfl 2 rfl ?_
      refine pw_if_le (tgt := 1343) (pc2 := 1326) dL_law_1323 (by decide) rfl (fun _ => ?_) (fun c1323 => by exact absurd (q0) c1323)
      refine pw_iinc (pc2 := 1346) (v := 1) (L2 := [(9, Value.int 1), (8, Value.int (nI (nts σ))), (7, Value.int (nI (npk σ))), (5, Value.long (sumF σ)), (0, Value.ref sc), (1, Value.ref (A 0 0)), (2, Value.ref (A 60 0)), (3, Value.int (nI (nrl σ)))]) dL_law_1343 rfl 0 rfl (by decide) (by decide) rfl ?_
      refine pw_goto (tgt := 1299) dL_law_1346 (by decide) ?_
      refine pw_iload (pc2 := 1301) dL_law_1299 rfl 0 rfl ?_
      refine pw_iconst (pc2 := 1302) (v := 3) dL_law_1301 rfl (by decide) ?_
      refine pw_icmp_ge (tgt := 1349) (pc2 := 1305) dL_law_1302 (by decide) rfl (fun c1302 => by exact absurd c1302 (by decide)) (fun _ => ?_)
      refine pw_aload_n (pc2 := 1306) dL_law_1305 rfl rfl 5 rfl (by first | exact rf_ref _ | exact rf_opt _ | exact rf_nul) ?_
      refine pw_iload (pc2 := 1308) dL_law_1306 rfl 2 rfl ?_
      refine pw_bipush (pc2 := 1310) (v := 100) dL_law_1308 rfl (by decide) ?_
      refine pw_iload (pc2 := 1312) dL_law_1310 rfl 0 rfl ?_
      refine PW.widen (kc' := 280 + 2) (ks' := 1680 + 12) (by omega) (by omega) ?_
      refine pw_lookS (kc := 280) (ks := 1680) (pc2 := 1315) (z_rl1 W47 hx) cs_L_152 rfl dL_law_1312 rfl (by omega) rfl (by first | decide | simp [cat_rf, Value.category]) (fun h48 W48 => ?_)
      refine pw_sipush (pc2 := 1318) (v := (-1001)) dL_law_1315 rfl (by decide) ?_
      refine pw_icmp_ne (tgt := 1341) (pc2 := 1321) dL_law_1318 (by decide) rfl (fun c1318 => by exact absurd (by decide) c1318) (fun _ => ?_)
      refine pw_iload (pc2 := 1323) dL_law_1321 rfl 2 rfl ?_
      refine pw_if_le (tgt := 1343) (pc2 := 1326) dL_law_1323 (by decide) rfl (fun _ => ?_) (fun c1323 => by exact absurd (q0) c1323)
      refine pw_iinc (pc2 := 1346) (v := 2) (L2 := [(9, Value.int 2), (8, Value.int (nI (nts σ))), (7, Value.int (nI (npk σ))), (5, Value.long (sumF σ)), (0, Value.ref sc), (1, Value.ref (A 0 0)), (2, Value.ref (A 60 0)), (3, Value.int (nI (nrl σ)))]) dL_law_1343 rfl 0 rfl (by decide) (by decide) rfl ?_
      refine pw_goto (tgt := 1299) dL_law_1346 (by decide) ?_
      refine pw_iload (pc2 := 1301) dL_law_1299 rfl 0 rfl ?_
      refine pw_iconst (pc2 := 1302) (v := 3) dL_law_1301 rfl (by decide) ?_
      refine pw_icmp_ge (tgt := 1349) (pc2 := 1305) dL_law_1302 (by decide) rfl (fun c1302 => by exact absurd c1302 (by decide)) (fun _ => ?_)
      refine pw_aload_n (pc2 := 1306) dL_law_1305 rfl rfl 5 rfl (by first | exact rf_ref _ | exact rf_opt _ | exact rf_nul) ?_
      refine pw_iload (pc2 := 1308) dL_law_1306 rfl 2 rfl ?_
      refine pw_bipush (pc2 := 1310) (v := 100) dL_law_1308 rfl (by decide) ?_
      refine pw_iload (pc2 := 1312) dL_law_1310 rfl 0 rfl ?_
      refine PW.widen (kc' := 276 + 4) (ks' := 1656 + 24) (by omega) (by omega) ?_
      refine pw_lookS (kc := 276) (ks := 1656) (pc2 := 1315) (z_rl2 W48 hx) cs_L_152 rfl dL_law_1312 rfl (by omega) rfl (by first | decide | simp [cat_rf, Value.category]) (fun h49 W49 => ?_)
      refine pw_sipush (pc2 := 1318) (v := (-1001)) dL_law_1315 rfl (by decide) ?_
      refine pw_icmp_ne (tgt := 1341) (pc2 := 1321) dL_law_1318 (by decide) rfl (fun c1318 => by exact absurd (by decide) c1318) (fun _ => ?_)
      refine pw_iload (pc2 := 1323) dL_law_1321 rfl 2 rfl ?_
      refine pw_if_le (tgt := 1343) (pc2 := 1326) dL_law_1323 (by decide) rfl (fun _ => ?_) (fun c1323 => by exact absurd (q0) c1323)
      refine pw_iinc (pc2 := 1346) (v := 3) (L2 := [(9, Value.int 3), (8, Value.int (nI (nts σ))), (7, Value.int (nI (npk σ))), (5, Value.long (sumF σ)), (0, Value.ref sc), (1, Value.ref (A 0 0)), (2, Value.ref (A 60 0)), (3, Value.int (nI (nrl σ)))]) dL_law_1343 rfl 0 rfl (by decide) (by decide) rfl ?_
      refine pw_goto (tgt := 1299) dL_law_1346 (by decide) ?_
      refine pw_iload (pc2 := 1301) dL_law_1299 rfl 0 rfl ?_
      refine pw_iconst (pc2 := 1302) (v := 3) dL_law_1301 rfl (by decide) ?_
      refine pw_icmp_ge (tgt := 1349) (pc2 := 1305) dL_law_1302 (by decide) rfl (fun _ => ?_) (fun c1302 => by exact absurd (by decide) c1302)
      refine pw_aload_n (pc2 := 1350) dL_law_1349 rfl rfl 5 rfl (by first | exact rf_ref _ | exact rf_opt _ | exact rf_nul) ?_
      refine pw_iload (pc2 := 1352) dL_law_1350 rfl 2 rfl ?_
      refine pw_bipush (pc2 := 1354) (v := 100) dL_law_1352 rfl (by decide) ?_
      refine pw_bipush (pc2 := 1356) (v := 10) dL_law_1354 rfl (by decide) ?_
      refine PW.widen (kc' := 273 + 3) (ks' := 1638 + 18) (by omega) (by omega) ?_
      refine pw_lookS (kc := 273) (ks := 1638) (pc2 := 1359) (z_rlL W49 hx) cs_L_152 rfl dL_law_1356 rfl (by omega) rfl (by first | decide | simp [cat_rf, Value.category]) (fun h50 W50 => ?_)
      refine pw_sipush (pc2 := 1362) (v := (-1001)) dL_law_1359 rfl (by decide) ?_
      refine pw_icmp_ne (tgt := 1399) (pc2 := 1365) dL_law_1362 (by decide) rfl (fun c1362 => by exact absurd (by decide) c1362) (fun _ => ?_)
      refine pw_iload (pc2 := 1367) dL_law_1365 rfl 2 rfl ?_
      refine pw_if_eq (tgt := 1385) (pc2 := 1370) dL_law_1367 (by decide) rfl (fun _ => ?_) (fun c1367 => by exact absurd (qz) c1367)
      refine pw_aload_n (pc2 := 1386) dL_law_1385 rfl rfl 5 rfl (by first | exact rf_ref _ | exact rf_opt _ | exact rf_nul) ?_
      refine PW.widen (kc' := 143 + 130) (ks' := 858 + 780) (by omega) (by omega) ?_
      refine pw_lookS (kc := 143) (ks := 858) (pc2 := 1389) (c_sum G _ W50 HJ) cs_L_175 rfl dL_law_1386 rfl (by omega) rfl (by first | decide | simp [cat_rf, Value.category]) (fun h51 W51 => ?_)
      refine pw_lload (pc2 := 1391) dL_law_1389 rfl 3 rfl ?_
      refine pw_lcmp (pc2 := 1392) dL_law_1391 rfl ?_
      refine pw_if_ne (tgt := 1399) (pc2 := 1395) dL_law_1392 (by decide) rfl (fun c1392 => by exact absurd (lcmp_eq rfl) c1392) (fun _ => ?_)
      refine pw_iconst (pc2 := 1396) (v := 1) dL_law_1395 rfl (by decide) ?_
      refine pw_goto (tgt := 1400) dL_law_1396 (by decide) ?_
      exact pw_lawret dL_law_1400
  · have h0 : 0 < npk σ := by omega
    have i0 : inR 0 (npk σ) := inR_of (p := 0) (np_lt (by omega)) h0
    have q0 : ¬ nI (npk σ) ≤ 0 := fun z => by have := (nI_leI (a := npk σ) (b := 0) (by omega) (by omega)).mp z; omega
    have qz : ¬ nI (npk σ) = 0 := ne_n (by omega) (by omega)
    have q1 : nI (npk σ) ≤ 1 := by rw [hc]; decide
    refine pw_aload_n (pc2 := 774) dL_law_773 rfl rfl 1 rfl (by first | exact rf_ref _ | exact rf_opt _ | exact rf_nul) ?_
    refine pw_aload_n (pc2 := 775) dL_law_774 rfl rfl 2 rfl (by first | exact rf_ref _ | exact rf_opt _ | exact rf_nul) ?_
    refine pw_iload_n (pc2 := 776) dL_law_775 rfl rfl 3 rfl ?_
    refine PW.widen (kc' := 560 + 940) (ks' := 3360 + 5640) (by omega) (by omega) ?_
    refine pw_lookS (kc := 560) (ks := 3360) (pc2 := 779) (c_sound G _ HW HJ HD) cs_L_191 rfl dL_law_776 rfl (by omega) rfl (by first | decide | simp [cat_rf, Value.category]) (fun h52 W52 => ?_)
    refine pw_if_ne (tgt := 784) (pc2 := 782) dL_law_779 (by decide) rfl (fun _ => ?_) (fun c779 => by exact absurd c779 (by decide))
    refine pw_aload_n (pc2 := 785) dL_law_784 rfl rfl 1 rfl (by first | exact rf_ref _ | exact rf_opt _ | exact rf_nul) ?_
    refine PW.widen (kc' := 430 + 130) (ks' := 2580 + 780) (by omega) (by omega) ?_
    refine pw_lookS (kc := 430) (ks := 2580) (pc2 := 788) (c_sum G _ W52 HJ) cs_L_175 rfl dL_law_785 rfl (by omega) rfl (by first | decide | simp [cat_rf, Value.category]) (fun h53 W53 => ?_)
    refine pw_lstore (pc2 := 790) (L2 := [(5, Value.long (sumF σ)), (0, Value.ref sc), (1, Value.ref (A 0 0)), (2, Value.ref (A 60 0)), (3, Value.int (nI (nrl σ)))]) dL_law_788 rfl (by decide) rfl ?_
    refine pw_aload_n (pc2 := 791) dL_law_790 rfl rfl 2 rfl (by first | exact rf_ref _ | exact rf_opt _ | exact rf_nul) ?_
    refine PW.widen (kc' := 423 + 7) (ks' := 2538 + 42) (by omega) (by omega) ?_
    refine pw_lookS (kc := 423) (ks := 2538) (pc2 := 794) (c_packs G _ W53 HJ) cs_L_118 rfl dL_law_791 rfl (by omega) rfl (by first | decide | simp [cat_rf, Value.category]) (fun h54 W54 => ?_)
    refine pw_istore (pc2 := 796) (L2 := [(7, Value.int (nI (npk σ))), (5, Value.long (sumF σ)), (0, Value.ref sc), (1, Value.ref (A 0 0)), (2, Value.ref (A 60 0)), (3, Value.int (nI (nrl σ)))]) dL_law_794 rfl (by decide) rfl ?_
    refine pw_aload_n (pc2 := 797) dL_law_796 rfl rfl 3 rfl (by first | exact rf_ref _ | exact rf_opt _ | exact rf_nul) ?_
    refine PW.widen (kc' := 414 + 9) (ks' := 2484 + 54) (by omega) (by omega) ?_
    refine pw_lookS (kc := 414) (ks := 2484) (pc2 := 800) (c_many G _ W54 HJ) cs_L_156 rfl dL_law_797 rfl (by omega) rfl (by first | decide | simp [cat_rf, Value.category]) (fun h55 W55 => ?_)
    refine pw_istore (pc2 := 802) (L2 := [(8, Value.int (nI (nts σ))), (7, Value.int (nI (npk σ))), (5, Value.long (sumF σ)), (0, Value.ref sc), (1, Value.ref (A 0 0)), (2, Value.ref (A 60 0)), (3, Value.int (nI (nrl σ)))]) dL_law_800 rfl (by decide) rfl ?_
    refine pw_aload_n (pc2 := 803) dL_law_802 rfl rfl 4 rfl (by first | exact rf_ref _ | exact rf_opt _ | exact rf_nul) ?_
    refine pw_iconst (pc2 := 804) (v := 3) dL_law_803 rfl (by decide) ?_
    refine PW.widen (kc' := 396 + 17) (ks' := 2376 + 108) (by omega) (by omega) ?_
    refine pw_lookS (kc := 396) (ks := 2376) (pc2 := 807) (z_pack W55 (by decide)) cs_L_179 rfl dL_law_804 rfl (by omega) rfl (by first | decide | simp [cat_rf, Value.category]) (fun h56 W56 => ?_)
    refine pw_sipush (pc2 := 810) (v := (-1001)) dL_law_807 rfl (by decide) ?_
    refine pw_icmp_ne (tgt := 1060) (pc2 := 813) dL_law_810 (by decide) rfl (fun c810 => by exact absurd (by decide) c810) (fun _ => ?_)
    refine pw_aload_n (pc2 := 814) dL_law_813 rfl rfl 4 rfl (by first | exact rf_ref _ | exact rf_opt _ | exact rf_nul) ?_
    refine pw_iconst (pc2 := 815) (v := (-1)) dL_law_814 rfl (by decide) ?_
    refine PW.widen (kc' := 378 + 17) (ks' := 2268 + 108) (by omega) (by omega) ?_
    refine pw_lookS (kc := 378) (ks := 2268) (pc2 := 818) (z_pack W56 (by decide)) cs_L_179 rfl dL_law_815 rfl (by omega) rfl (by first | decide | simp [cat_rf, Value.category]) (fun h57 W57 => ?_)
    refine pw_sipush (pc2 := 821) (v := (-1001)) dL_law_818 rfl (by decide) ?_
    refine pw_icmp_ne (tgt := 1060) (pc2 := 824) dL_law_821 (by decide) rfl (fun c821 => by exact absurd (by decide) c821) (fun _ => ?_)
    refine pw_aload_n (pc2 := 825) dL_law_824 rfl rfl 4 rfl (by first | exact rf_ref _ | exact rf_opt _ | exact rf_nul) ?_
    refine pw_iload (pc2 := 827) dL_law_825 rfl 1 rfl ?_
    refine pw_sipush (pc2 := 830) (v := 1000) dL_law_827 rfl (by decide) ?_
    refine pw_iconst (pc2 := 831) (v := 0) dL_law_830 rfl (by decide) ?_
    refine PW.widen (kc' := 376 + 2) (ks' := 2256 + 12) (by omega) (by omega) ?_
    refine pw_lookS (kc := 376) (ks := 2256) (pc2 := 834) (z_src1 W57 hx) cs_L_183 rfl dL_law_831 rfl (by omega) rfl (by first | decide | simp [cat_rf, Value.category]) (fun h58 W58 => ?_)
    refine pw_sipush (pc2 := 837) (v := (-1001)) dL_law_834 rfl (by decide) ?_
    refine pw_icmp_ne (tgt := 1060) (pc2 := 840) dL_law_837 (by decide) rfl (fun c837 => by exact absurd (by decide) c837) (fun _ => ?_)
    refine pw_iload (pc2 := 842) dL_law_840 rfl 1 rfl ?_
    refine pw_if_le (tgt := 860) (pc2 := 845) dL_law_842 (by decide) rfl (fun c842 => by exact absurd c842 (q0)) (fun _ => ?_)
    refine pw_aload_n (pc2 := 846) dL_law_845 rfl rfl 4 rfl (by first | exact rf_ref _ | exact rf_opt _ | exact rf_nul) ?_
    refine pw_iconst (pc2 := 847) (v := 0) dL_law_846 rfl (by decide) ?_
    refine pw_sipush (pc2 := 850) (v := 1000) dL_law_847 rfl (by decide) ?_
    refine pw_iconst (pc2 := 851) (v := 0) dL_law_850 rfl (by decide) ?_
    refine PW.widen (kc' := 374 + 2) (ks' := 2244 + 12) (by omega) (by omega) ?_
    refine pw_lookS (kc := 374) (ks := 2244) (pc2 := 854) (z_src2 W58 i0 (fun z => absurd z.1.2 (by decide))) cs_L_183 rfl dL_law_851 rfl (by omega) rfl (by first | decide | simp [cat_rf, Value.category]) (fun h59 W59 => ?_)
    refine pw_sipush (pc2 := 857) (v := (-1002)) dL_law_854 rfl (by decide) ?_
    refine pw_icmp_ne (tgt := 1060) (pc2 := 860) dL_law_857 (by decide) rfl (fun c857 => by exact absurd (by decide) c857) (fun _ => ?_)
    refine pw_iload (pc2 := 862) dL_law_860 rfl 1 rfl ?_
    refine pw_if_le (tgt := 878) (pc2 := 865) dL_law_862 (by decide) rfl (fun c862 => by exact absurd c862 (q0)) (fun _ => ?_)
    refine pw_aload_n (pc2 := 866) dL_law_865 rfl rfl 4 rfl (by first | exact rf_ref _ | exact rf_opt _ | exact rf_nul) ?_
    refine pw_iconst (pc2 := 867) (v := 0) dL_law_866 rfl (by decide) ?_
    refine pw_iconst (pc2 := 868) (v := 0) dL_law_867 rfl (by decide) ?_
    refine pw_iconst (pc2 := 869) (v := (-1)) dL_law_868 rfl (by decide) ?_
    refine PW.widen (kc' := 372 + 2) (ks' := 2232 + 12) (by omega) (by omega) ?_
    refine pw_lookS (kc := 372) (ks := 2232) (pc2 := 872) (z_src2 W59 i0 (fun z => absurd z.2.1 (by decide))) cs_L_183 rfl dL_law_869 rfl (by omega) rfl (by first | decide | simp [cat_rf, Value.category]) (fun h60 W60 => ?_)
    refine pw_sipush (pc2 := 875) (v := (-1002)) dL_law_872 rfl (by decide) ?_
    refine pw_icmp_ne (tgt := 1060) (pc2 := 878) dL_law_875 (by decide) rfl (fun c875 => by exact absurd (by decide) c875) (fun _ => ?_)
    refine pw_aload_n (pc2 := 879) dL_law_878 rfl rfl 4 rfl (by first | exact rf_ref _ | exact rf_opt _ | exact rf_nul) ?_
    refine pw_iload (pc2 := 881) dL_law_879 rfl 1 rfl ?_
    refine pw_iconst (pc2 := 882) (v := 0) dL_law_881 rfl (by decide) ?_
    refine pw_iconst (pc2 := 883) (v := 0) dL_law_882 rfl (by decide) ?_
    refine pw_iconst (pc2 := 884) (v := 0) dL_law_883 rfl (by decide) ?_
    refine PW.widen (kc' := 369 + 3) (ks' := 2214 + 18) (by omega) (by omega) ?_
    refine pw_lookS (kc := 369) (ks := 2214) (pc2 := 887) (z_nd1 W60 (by decide) (fun z => hx z.1)) cs_L_186 rfl dL_law_884 rfl (by omega) rfl (by first | decide | simp [cat_rf, Value.category]) (fun h61 W61 => ?_)
    refine pw_sipush (pc2 := 890) (v := (-1001)) dL_law_887 rfl (by decide) ?_
    refine pw_icmp_ne (tgt := 1060) (pc2 := 893) dL_law_890 (by decide) rfl (fun c890 => by exact absurd (by decide) c890) (fun _ => ?_)
    refine pw_aload_n (pc2 := 894) dL_law_893 rfl rfl 4 rfl (by first | exact rf_ref _ | exact rf_opt _ | exact rf_nul) ?_
    refine pw_iconst (pc2 := 895) (v := 0) dL_law_894 rfl (by decide) ?_
    refine pw_iload (pc2 := 897) dL_law_895 rfl 1 rfl ?_
    refine pw_bipush (pc2 := 899) (v := 100) dL_law_897 rfl (by decide) ?_
    refine pw_bipush (pc2 := 901) (v := 100) dL_law_899 rfl (by decide) ?_
    refine PW.widen (kc' := 366 + 3) (ks' := 2196 + 18) (by omega) (by omega) ?_
    refine pw_lookS (kc := 366) (ks := 2196) (pc2 := 904) (z_nd1 W61 (by decide) (fun z => hx z.2)) cs_L_186 rfl dL_law_901 rfl (by omega) rfl (by first | decide | simp [cat_rf, Value.category]) (fun h62 W62 => ?_)
    refine pw_sipush (pc2 := 907) (v := (-1001)) dL_law_904 rfl (by decide) ?_
    refine pw_icmp_ne (tgt := 1060) (pc2 := 910) dL_law_907 (by decide) rfl (fun c907 => by exact absurd (by decide) c907) (fun _ => ?_)
    refine pw_iload (pc2 := 912) dL_law_910 rfl 1 rfl ?_
    refine pw_if_le (tgt := 931) (pc2 := 915) dL_law_912 (by decide) rfl (fun c912 => by exact absurd c912 (q0)) (fun _ => ?_)
    refine pw_aload_n (pc2 := 916) dL_law_915 rfl rfl 4 rfl (by first | exact rf_ref _ | exact rf_opt _ | exact rf_nul) ?_
    refine pw_iconst (pc2 := 917) (v := 0) dL_law_916 rfl (by decide) ?_
    refine pw_iconst (pc2 := 918) (v := 0) dL_law_917 rfl (by decide) ?_
    refine pw_bipush (pc2 := 920) (v := 100) dL_law_918 rfl (by decide) ?_
    refine pw_bipush (pc2 := 922) (v := 100) dL_law_920 rfl (by decide) ?_
    refine PW.widen (kc' := 363 + 3) (ks' := 2178 + 18) (by omega) (by omega) ?_
    refine pw_lookS (kc := 363) (ks := 2178) (pc2 := 925) (z_nd2 W62 (by decide) ⟨i0, i0⟩ (fun z => absurd z.1 (by decide))) cs_L_186 rfl dL_law_922 rfl (by omega) rfl (by first | decide | simp [cat_rf, Value.category]) (fun h63 W63 => ?_)
    refine pw_sipush (pc2 := 928) (v := (-1002)) dL_law_925 rfl (by decide) ?_
    refine pw_icmp_ne (tgt := 1060) (pc2 := 931) dL_law_928 (by decide) rfl (fun c928 => by exact absurd (by decide) c928) (fun _ => ?_)
    refine pw_iload (pc2 := 933) dL_law_931 rfl 1 rfl ?_
    refine pw_iconst (pc2 := 934) (v := 1) dL_law_933 rfl (by decide) ?_
    refine pw_icmp_le (tgt := 953) (pc2 := 937) dL_law_934 (by decide) rfl (fun _ => ?_) (fun c934 => by exact absurd (q1) c934)
    refine pw_iload (pc2 := 955) dL_law_953 rfl 1 rfl ?_
    refine pw_iconst (pc2 := 956) (v := 1) dL_law_955 rfl (by decide) ?_
    refine pw_icmp_le (tgt := 975) (pc2 := 959) dL_law_956 (by decide) rfl (fun _ => ?_) (fun c956 => by exact absurd (q1) c956)
    refine pw_iload (pc2 := 977) dL_law_975 rfl 1 rfl ?_
    refine pw_iconst (pc2 := 978) (v := 1) dL_law_977 rfl (by decide) ?_
    refine pw_icmp_le (tgt := 998) (pc2 := 981) dL_law_978 (by decide) rfl (fun _ => ?_) (fun c978 => by exact absurd (q1) c978)
    refine pw_aload_n (pc2 := 999) dL_law_998 rfl rfl 4 rfl (by first | exact rf_ref _ | exact rf_opt _ | exact rf_nul) ?_
    refine pw_iload (pc2 := 1001) dL_law_999 rfl 1 rfl ?_
    refine pw_iconst (pc2 := 1002) (v := 0) dL_law_1001 rfl (by decide) ?_
    refine pw_iconst (pc2 := 1003) (v := (-1)) dL_law_1002 rfl (by decide) ?_
    refine pw_iconst (pc2 := 1004) (v := 0) dL_law_1003 rfl (by decide) ?_
    refine PW.widen (kc' := 360 + 3) (ks' := 2160 + 18) (by omega) (by omega) ?_
    refine pw_lookS (kc := 360) (ks := 2160) (pc2 := 1007) (z_dn1 W63 (fun z => hx z.1)) cs_L_186 rfl dL_law_1004 rfl (by omega) rfl (by first | decide | simp [cat_rf, Value.category]) (fun h64 W64 => ?_)
    refine pw_sipush (pc2 := 1010) (v := (-1001)) dL_law_1007 rfl (by decide) ?_
    refine pw_icmp_ne (tgt := 1060) (pc2 := 1013) dL_law_1010 (by decide) rfl (fun c1010 => by exact absurd (by decide) c1010) (fun _ => ?_)
    refine pw_iload (pc2 := 1015) dL_law_1013 rfl 1 rfl ?_
    refine pw_if_le (tgt := 1032) (pc2 := 1018) dL_law_1015 (by decide) rfl (fun c1015 => by exact absurd c1015 (q0)) (fun _ => ?_)
    refine pw_aload_n (pc2 := 1019) dL_law_1018 rfl rfl 4 rfl (by first | exact rf_ref _ | exact rf_opt _ | exact rf_nul) ?_
    refine pw_iconst (pc2 := 1020) (v := 0) dL_law_1019 rfl (by decide) ?_
    refine pw_iconst (pc2 := 1021) (v := 0) dL_law_1020 rfl (by decide) ?_
    refine pw_iconst (pc2 := 1022) (v := (-1)) dL_law_1021 rfl (by decide) ?_
    refine pw_iconst (pc2 := 1023) (v := 0) dL_law_1022 rfl (by decide) ?_
    refine PW.widen (kc' := 357 + 3) (ks' := 2142 + 18) (by omega) (by omega) ?_
    refine pw_lookS (kc := 357) (ks := 2142) (pc2 := 1026) (z_dn2 W64 HJ h0) cs_L_186 rfl dL_law_1023 rfl (by omega) rfl (by first | decide | simp [cat_rf, Value.category]) (fun h65 W65 => ?_)
    refine pw_sipush (pc2 := 1029) (v := (-1002)) dL_law_1026 rfl (by decide) ?_
    refine pw_icmp_ne (tgt := 1060) (pc2 := 1032) dL_law_1029 (by decide) rfl (fun c1029 => by exact absurd (by decide) c1029) (fun _ => ?_)
    refine pw_aload_n (pc2 := 1033) dL_law_1032 rfl rfl 4 rfl (by first | exact rf_ref _ | exact rf_opt _ | exact rf_nul) ?_
    refine pw_iload (pc2 := 1035) dL_law_1033 rfl 1 rfl ?_
    refine pw_iconst (pc2 := 1036) (v := 0) dL_law_1035 rfl (by decide) ?_
    refine pw_iconst (pc2 := 1037) (v := 0) dL_law_1036 rfl (by decide) ?_
    refine PW.widen (kc' := 354 + 3) (ks' := 2124 + 18) (by omega) (by omega) ?_
    refine pw_lookS (kc := 354) (ks := 2124) (pc2 := 1040) (x_cho0 W65 (fun z => hx z.1)) cs_L_149 rfl dL_law_1037 rfl (by omega) rfl (by first | decide | simp [cat_rf, Value.category]) (fun h66 W66 => ?_)
    refine pw_sipush (pc2 := 1043) (v := (-1001)) dL_law_1040 rfl (by decide) ?_
    refine pw_icmp_ne (tgt := 1060) (pc2 := 1046) dL_law_1043 (by decide) rfl (fun c1043 => by exact absurd (by decide) c1043) (fun _ => ?_)
    refine pw_aload_n (pc2 := 1047) dL_law_1046 rfl rfl 4 rfl (by first | exact rf_ref _ | exact rf_opt _ | exact rf_nul) ?_
    refine pw_iconst (pc2 := 1048) (v := 0) dL_law_1047 rfl (by decide) ?_
    refine pw_iload (pc2 := 1050) dL_law_1048 rfl 1 rfl ?_
    refine pw_iconst (pc2 := 1051) (v := 1) dL_law_1050 rfl (by decide) ?_
    refine PW.widen (kc' := 351 + 3) (ks' := 2106 + 18) (by omega) (by omega) ?_
    refine pw_lookS (kc := 351) (ks := 2106) (pc2 := 1054) (x_cho1 W66 HJ (fun z => hx z.2)) cs_L_149 rfl dL_law_1051 rfl (by omega) rfl (by first | decide | simp [cat_rf, Value.category]) (fun h67 W67 => ?_)
    refine pw_sipush (pc2 := 1057) (v := (-1001)) dL_law_1054 rfl (by decide) ?_
    refine pw_icmp_eq (tgt := 1062) (pc2 := 1060) dL_law_1057 (by decide) rfl (fun _ => ?_) (fun c1057 => by exact absurd (by decide) c1057)
    refine pw_iconst (pc2 := 1063) (v := 0) dL_law_1062 rfl (by decide) ?_
    refine pw_istore (pc2 := 1065) (L2 := [(9, Value.int 0), (8, Value.int (nI (nts σ))), (7, Value.int (nI (npk σ))), (5, Value.long (sumF σ)), (0, Value.ref sc), (1, Value.ref (A 0 0)), (2, Value.ref (A 60 0)), (3, Value.int (nI (nrl σ)))]) dL_law_1063 rfl (by decide) rfl ?_
    refine pw_iload (pc2 := 1067) dL_law_1065 rfl 0 rfl ?_
    refine pw_bipush (pc2 := 1069) (v := 6) dL_law_1067 rfl (by decide) ?_
    refine pw_icmp_ge (tgt := 1107) (pc2 := 1072) dL_law_1069 (by decide) rfl (fun c1069 => by exact absurd c1069 (by decide)) (fun _ => ?_)
    refine pw_aload_n (pc2 := 1073) dL_law_1072 rfl rfl 5 rfl (by first | exact rf_ref _ | exact rf_opt _ | exact rf_nul) ?_
    refine pw_iload (pc2 := 1075) dL_law_1073 rfl 2 rfl ?_
    refine pw_iload (pc2 := 1077) dL_law_1075 rfl 0 rfl ?_
    refine PW.widen (kc' := 349 + 2) (ks' := 2094 + 12) (by omega) (by omega) ?_
    refine pw_lookS (kc := 349) (ks := 2094) (pc2 := 1080) (z_of0 W67 hx) cs_L_109 rfl dL_law_1077 rfl (by omega) rfl (by first | decide | simp [cat_rf, Value.category]) (fun h68 W68 => ?_)
    refine pw_sipush (pc2 := 1083) (v := (-1001)) dL_law_1080 rfl (by decide) ?_
    refine pw_icmp_ne (tgt := 1099) (pc2 := 1086) dL_law_1083 (by decide) rfl (fun c1083 => by exact absurd (by decide) c1083) (fun _ => ?_)
    refine pw_aload_n (pc2 := 1087) dL_law_1086 rfl rfl 5 rfl (by first | exact rf_ref _ | exact rf_opt _ | exact rf_nul) ?_
    refine pw_iconst (pc2 := 1088) (v := (-1)) dL_law_1087 rfl (by decide) ?_
    refine pw_iload (pc2 := 1090) dL_law_1088 rfl 0 rfl ?_
    refine PW.widen (kc' := 347 + 2) (ks' := 2082 + 12) (by omega) (by omega) ?_
    refine pw_lookS (kc := 347) (ks := 2082) (pc2 := 1093) (z_of0 W68 neg_in) cs_L_109 rfl dL_law_1090 rfl (by omega) rfl (by first | decide | simp [cat_rf, Value.category]) (fun h69 W69 => ?_)
    refine pw_sipush (pc2 := 1096) (v := (-1001)) dL_law_1093 rfl (by decide) ?_
    refine pw_icmp_eq (tgt := 1101) (pc2 := 1099) dL_law_1096 (by decide) rfl (fun _ => ?_) (fun c1096 => by exact absurd (by decide) c1096)
    refine pw_iinc (pc2 := 1104) (v := 1) (L2 := [(9, Value.int 1), (8, Value.int (nI (nts σ))), (7, Value.int (nI (npk σ))), (5, Value.long (sumF σ)), (0, Value.ref sc), (1, Value.ref (A 0 0)), (2, Value.ref (A 60 0)), (3, Value.int (nI (nrl σ)))]) dL_law_1101 rfl 0 rfl (by decide) (by decide) rfl ?_
    refine pw_goto (tgt := 1065) dL_law_1104 (by decide) ?_
    refine pw_iload (pc2 := 1067) dL_law_1065 rfl 0 rfl ?_
    refine pw_bipush (pc2 := 1069) (v := 6) dL_law_1067 rfl (by decide) ?_
    refine pw_icmp_ge (tgt := 1107) (pc2 := 1072) dL_law_1069 (by decide) rfl (fun c1069 => by exact absurd c1069 (by decide)) (fun _ => ?_)
    refine pw_aload_n (pc2 := 1073) dL_law_1072 rfl rfl 5 rfl (by first | exact rf_ref _ | exact rf_opt _ | exact rf_nul) ?_
    refine pw_iload (pc2 := 1075) dL_law_1073 rfl 2 rfl ?_
    refine pw_iload (pc2 := 1077) dL_law_1075 rfl 0 rfl ?_
    refine PW.widen (kc' := 344 + 3) (ks' := 2064 + 18) (by omega) (by omega) ?_
    refine pw_lookS (kc := 344) (ks := 2064) (pc2 := 1080) (z_of1 W69 HJ hx) cs_L_109 rfl dL_law_1077 rfl (by omega) rfl (by first | decide | simp [cat_rf, Value.category]) (fun h70 W70 => ?_)
    refine pw_sipush (pc2 := 1083) (v := (-1001)) dL_law_1080 rfl (by decide) ?_
    refine pw_icmp_ne (tgt := 1099) (pc2 := 1086) dL_law_1083 (by decide) rfl (fun c1083 => by exact absurd (by decide) c1083) (fun _ => ?_)
    refine pw_aload_n (pc2 := 1087) dL_law_1086 rfl rfl 5 rfl (by first | exact rf_ref _ | exact rf_opt _ | exact rf_nul) ?_
    refine pw_iconst (pc2 := 1088) (v := (-1)) dL_law_1087 rfl (by decide) ?_
    refine pw_iload (pc2 := 1090) dL_law_1088 rfl 0 rfl ?_
    refine PW.widen (kc' := 341 + 3) (ks' := 2046 + 18) (by omega) (by omega) ?_
    refine pw_lookS (kc := 341) (ks := 2046) (pc2 := 1093) (z_of1 W70 HJ neg_in) cs_L_109 rfl dL_law_1090 rfl (by omega) rfl (by first | decide | simp [cat_rf, Value.category]) (fun h71 W71 => ?_)
    refine pw_sipush (pc2 := 1096) (v := (-1001)) dL_law_1093 rfl (by decide) ?_
    refine pw_icmp_eq (tgt := 1101) (pc2 := 1099) dL_law_1096 (by decide) rfl (fun _ => ?_) (fun c1096 => by exact absurd (by decide) c1096)
    refine pw_iinc (pc2 := 1104) (v := 2) (L2 := [(9, Value.int 2), (8, Value.int (nI (nts σ))), (7, Value.int (nI (npk σ))), (5, Value.long (sumF σ)), (0, Value.ref sc), (1, Value.ref (A 0 0)), (2, Value.ref (A 60 0)), (3, Value.int (nI (nrl σ)))]) dL_law_1101 rfl 0 rfl (by decide) (by decide) rfl ?_
    refine pw_goto (tgt := 1065) dL_law_1104 (by decide) ?_
    refine pw_iload (pc2 := 1067) dL_law_1065 rfl 0 rfl ?_
    refine pw_bipush (pc2 := 1069) (v := 6) dL_law_1067 rfl (by decide) ?_
    refine pw_icmp_ge (tgt := 1107) (pc2 := 1072) dL_law_1069 (by decide) rfl (fun c1069 => by exact absurd c1069 (by decide)) (fun _ => ?_)
    refine pw_aload_n (pc2 := 1073) dL_law_1072 rfl rfl 5 rfl (by first | exact rf_ref _ | exact rf_opt _ | exact rf_nul) ?_
    refine pw_iload (pc2 := 1075) dL_law_1073 rfl 2 rfl ?_
    refine pw_iload (pc2 := 1077) dL_law_1075 rfl 0 rfl ?_
    refine PW.widen (kc' := 340 + 1) (ks' := 2040 + 6) (by omega) (by omega) ?_
    refine pw_lookS (kc := 340) (ks := 2040) (pc2 := 1080) (x_of2 W71 HJ hx) cs_L_109 rfl dL_law_1077 rfl (by omega) rfl (by first | decide | simp [cat_rf, Value.category]) (fun h72 W72 => ?_)
    refine pw_sipush (pc2 := 1083) (v := (-1001)) dL_law_1080 rfl (by decide) ?_
    refine pw_icmp_ne (tgt := 1099) (pc2 := 1086) dL_law_1083 (by decide) rfl (fun c1083 => by exact absurd (by decide) c1083) (fun _ => ?_)
    refine pw_aload_n (pc2 := 1087) dL_law_1086 rfl rfl 5 rfl (by first | exact rf_ref _ | exact rf_opt _ | exact rf_nul) ?_
    refine pw_iconst (pc2 := 1088) (v := (-1)) dL_law_1087 rfl (by decide) ?_
    refine pw_iload (pc2 := 1090) dL_law_1088 rfl 0 rfl ?_
    refine PW.widen (kc' := 339 + 1) (ks' := 2034 + 6) (by omega) (by omega) ?_
    refine pw_lookS (kc := 339) (ks := 2034) (pc2 := 1093) (x_of2 W72 HJ neg_in) cs_L_109 rfl dL_law_1090 rfl (by omega) rfl (by first | decide | simp [cat_rf, Value.category]) (fun h73 W73 => ?_)
    refine pw_sipush (pc2 := 1096) (v := (-1001)) dL_law_1093 rfl (by decide) ?_
    refine pw_icmp_eq (tgt := 1101) (pc2 := 1099) dL_law_1096 (by decide) rfl (fun _ => ?_) (fun c1096 => by exact absurd (by decide) c1096)
    refine pw_iinc (pc2 := 1104) (v := 3) (L2 := [(9, Value.int 3), (8, Value.int (nI (nts σ))), (7, Value.int (nI (npk σ))), (5, Value.long (sumF σ)), (0, Value.ref sc), (1, Value.ref (A 0 0)), (2, Value.ref (A 60 0)), (3, Value.int (nI (nrl σ)))]) dL_law_1101 rfl 0 rfl (by decide) (by decide) rfl ?_
    refine pw_goto (tgt := 1065) dL_law_1104 (by decide) ?_
    refine pw_iload (pc2 := 1067) dL_law_1065 rfl 0 rfl ?_
    refine pw_bipush (pc2 := 1069) (v := 6) dL_law_1067 rfl (by decide) ?_
    refine pw_icmp_ge (tgt := 1107) (pc2 := 1072) dL_law_1069 (by decide) rfl (fun c1069 => by exact absurd c1069 (by decide)) (fun _ => ?_)
    refine pw_aload_n (pc2 := 1073) dL_law_1072 rfl rfl 5 rfl (by first | exact rf_ref _ | exact rf_opt _ | exact rf_nul) ?_
    refine pw_iload (pc2 := 1075) dL_law_1073 rfl 2 rfl ?_
    refine pw_iload (pc2 := 1077) dL_law_1075 rfl 0 rfl ?_
    refine PW.widen (kc' := 338 + 1) (ks' := 2028 + 6) (by omega) (by omega) ?_
    refine pw_lookS (kc := 338) (ks := 2028) (pc2 := 1080) (x_of3 W73 hx) cs_L_109 rfl dL_law_1077 rfl (by omega) rfl (by first | decide | simp [cat_rf, Value.category]) (fun h74 W74 => ?_)
    refine pw_sipush (pc2 := 1083) (v := (-1001)) dL_law_1080 rfl (by decide) ?_
    refine pw_icmp_ne (tgt := 1099) (pc2 := 1086) dL_law_1083 (by decide) rfl (fun c1083 => by exact absurd (by decide) c1083) (fun _ => ?_)
    refine pw_aload_n (pc2 := 1087) dL_law_1086 rfl rfl 5 rfl (by first | exact rf_ref _ | exact rf_opt _ | exact rf_nul) ?_
    refine pw_iconst (pc2 := 1088) (v := (-1)) dL_law_1087 rfl (by decide) ?_
    refine pw_iload (pc2 := 1090) dL_law_1088 rfl 0 rfl ?_
    refine PW.widen (kc' := 337 + 1) (ks' := 2022 + 6) (by omega) (by omega) ?_
    refine pw_lookS (kc := 337) (ks := 2022) (pc2 := 1093) (x_of3 W74 neg_in) cs_L_109 rfl dL_law_1090 rfl (by omega) rfl (by first | decide | simp [cat_rf, Value.category]) (fun h75 W75 => ?_)
    refine pw_sipush (pc2 := 1096) (v := (-1001)) dL_law_1093 rfl (by decide) ?_
    refine pw_icmp_eq (tgt := 1101) (pc2 := 1099) dL_law_1096 (by decide) rfl (fun _ => ?_) (fun c1096 => by exact absurd (by decide) c1096)
    refine pw_iinc (pc2 := 1104) (v := 4) (L2 := [(9, Value.int 4), (8, Value.int (nI (nts σ))), (7, Value.int (nI (npk σ))), (5, Value.long (sumF σ)), (0, Value.ref sc), (1, Value.ref (A 0 0)), (2, Value.ref (A 60 0)), (3, Value.int (nI (nrl σ)))]) dL_law_1101 rfl 0 rfl (by decide) (by decide) rfl ?_
    refine pw_goto (tgt := 1065) dL_law_1104 (by decide) ?_
    refine pw_iload (pc2 := 1067) dL_law_1065 rfl 0 rfl ?_
    refine pw_bipush (pc2 := 1069) (v := 6) dL_law_1067 rfl (by decide) ?_
    refine pw_icmp_ge (tgt := 1107) (pc2 := 1072) dL_law_1069 (by decide) rfl (fun c1069 => by exact absurd c1069 (by decide)) (fun _ => ?_)
    refine pw_aload_n (pc2 := 1073) dL_law_1072 rfl rfl 5 rfl (by first | exact rf_ref _ | exact rf_opt _ | exact rf_nul) ?_
    refine pw_iload (pc2 := 1075) dL_law_1073 rfl 2 rfl ?_
    refine pw_iload (pc2 := 1077) dL_law_1075 rfl 0 rfl ?_
    refine PW.widen (kc' := 336 + 1) (ks' := 2016 + 6) (by omega) (by omega) ?_
    refine pw_lookS (kc := 336) (ks := 2016) (pc2 := 1080) (x_of4 W75 hx) cs_L_109 rfl dL_law_1077 rfl (by omega) rfl (by first | decide | simp [cat_rf, Value.category]) (fun h76 W76 => ?_)
    refine pw_sipush (pc2 := 1083) (v := (-1001)) dL_law_1080 rfl (by decide) ?_
    refine pw_icmp_ne (tgt := 1099) (pc2 := 1086) dL_law_1083 (by decide) rfl (fun c1083 => by exact absurd (by decide) c1083) (fun _ => ?_)
    refine pw_aload_n (pc2 := 1087) dL_law_1086 rfl rfl 5 rfl (by first | exact rf_ref _ | exact rf_opt _ | exact rf_nul) ?_
    refine pw_iconst (pc2 := 1088) (v := (-1)) dL_law_1087 rfl (by decide) ?_
    refine pw_iload (pc2 := 1090) dL_law_1088 rfl 0 rfl ?_
    refine PW.widen (kc' := 335 + 1) (ks' := 2010 + 6) (by omega) (by omega) ?_
    refine pw_lookS (kc := 335) (ks := 2010) (pc2 := 1093) (x_of4 W76 neg_in) cs_L_109 rfl dL_law_1090 rfl (by omega) rfl (by first | decide | simp [cat_rf, Value.category]) (fun h77 W77 => ?_)
    refine pw_sipush (pc2 := 1096) (v := (-1001)) dL_law_1093 rfl (by decide) ?_
    refine pw_icmp_eq (tgt := 1101) (pc2 := 1099) dL_law_1096 (by decide) rfl (fun _ => ?_) (fun c1096 => by exact absurd (by decide) c1096)
    refine pw_iinc (pc2 := 1104) (v := 5) (L2 := [(9, Value.int 5), (8, Value.int (nI (nts σ))), (7, Value.int (nI (npk σ))), (5, Value.long (sumF σ)), (0, Value.ref sc), (1, Value.ref (A 0 0)), (2, Value.ref (A 60 0)), (3, Value.int (nI (nrl σ)))]) dL_law_1101 rfl 0 rfl (by decide) (by decide) rfl ?_
    refine pw_goto (tgt := 1065) dL_law_1104 (by decide) ?_
    refine pw_iload (pc2 := 1067) dL_law_1065 rfl 0 rfl ?_
    refine pw_bipush (pc2 := 1069) (v := 6) dL_law_1067 rfl (by decide) ?_
    refine pw_icmp_ge (tgt := 1107) (pc2 := 1072) dL_law_1069 (by decide) rfl (fun c1069 => by exact absurd c1069 (by decide)) (fun _ => ?_)
    refine pw_aload_n (pc2 := 1073) dL_law_1072 rfl rfl 5 rfl (by first | exact rf_ref _ | exact rf_opt _ | exact rf_nul) ?_
    refine pw_iload (pc2 := 1075) dL_law_1073 rfl 2 rfl ?_
    refine pw_iload (pc2 := 1077) dL_law_1075 rfl 0 rfl ?_
    refine PW.widen (kc' := 316 + 9) (ks' := 1896 + 112) (by omega) (by omega) ?_
    refine pw_lookS (kc := 316) (ks := 1896) (pc2 := 1080) (z_publ W77 hx) cs_L_109 rfl dL_law_1077 rfl (by omega) rfl (by first | decide | simp [cat_rf, Value.category]) (fun h78 W78 => ?_)
    refine pw_sipush (pc2 := 1083) (v := (-1001)) dL_law_1080 rfl (by decide) ?_
    refine pw_icmp_ne (tgt := 1099) (pc2 := 1086) dL_law_1083 (by decide) rfl (fun c1083 => by exact absurd (by decide) c1083) (fun _ => ?_)
    refine pw_aload_n (pc2 := 1087) dL_law_1086 rfl rfl 5 rfl (by first | exact rf_ref _ | exact rf_opt _ | exact rf_nul) ?_
    refine pw_iconst (pc2 := 1088) (v := (-1)) dL_law_1087 rfl (by decide) ?_
    refine pw_iload (pc2 := 1090) dL_law_1088 rfl 0 rfl ?_
    refine PW.widen (kc' := 297 + 9) (ks' := 1782 + 112) (by omega) (by omega) ?_
    refine pw_lookS (kc := 297) (ks := 1782) (pc2 := 1093) (z_publ W78 neg_in) cs_L_109 rfl dL_law_1090 rfl (by omega) rfl (by first | decide | simp [cat_rf, Value.category]) (fun h79 W79 => ?_)
    refine pw_sipush (pc2 := 1096) (v := (-1001)) dL_law_1093 rfl (by decide) ?_
    refine pw_icmp_eq (tgt := 1101) (pc2 := 1099) dL_law_1096 (by decide) rfl (fun _ => ?_) (fun c1096 => by exact absurd (by decide) c1096)
    refine pw_iinc (pc2 := 1104) (v := 6) (L2 := [(9, Value.int 6), (8, Value.int (nI (nts σ))), (7, Value.int (nI (npk σ))), (5, Value.long (sumF σ)), (0, Value.ref sc), (1, Value.ref (A 0 0)), (2, Value.ref (A 60 0)), (3, Value.int (nI (nrl σ)))]) dL_law_1101 rfl 0 rfl (by decide) (by decide) rfl ?_
    refine pw_goto (tgt := 1065) dL_law_1104 (by decide) ?_
    refine pw_iload (pc2 := 1067) dL_law_1065 rfl 0 rfl ?_
    refine pw_bipush (pc2 := 1069) (v := 6) dL_law_1067 rfl (by decide) ?_
    refine pw_icmp_ge (tgt := 1107) (pc2 := 1072) dL_law_1069 (by decide) rfl (fun _ => ?_) (fun c1069 => by exact absurd (by decide) c1069)
    refine pw_aload_n (pc2 := 1108) dL_law_1107 rfl rfl 5 rfl (by first | exact rf_ref _ | exact rf_opt _ | exact rf_nul) ?_
    refine pw_iload (pc2 := 1110) dL_law_1108 rfl 2 rfl ?_
    refine pw_iconst (pc2 := 1111) (v := 0) dL_law_1110 rfl (by decide) ?_
    refine PW.widen (kc' := 287 + 4) (ks' := 1722 + 59) (by omega) (by omega) ?_
    refine pw_lookS (kc := 287) (ks := 1722) (pc2 := 1114) (z_at1 W79 hx) cs_L_189 rfl dL_law_1111 rfl (by omega) rfl (by first | decide | simp [cat_rf, Value.category]) (fun h80 W80 => ?_)
    refine pw_sipush (pc2 := 1117) (v := (-1001)) dL_law_1114 rfl (by decide) ?_
    refine pw_icmp_ne (tgt := 1294) (pc2 := 1120) dL_law_1117 (by decide) rfl (fun c1117 => by exact absurd (by decide) c1117) (fun _ => ?_)
    refine pw_iload (pc2 := 1122) dL_law_1120 rfl 2 rfl ?_
    refine pw_if_le (tgt := 1137) (pc2 := 1125) dL_law_1122 (by decide) rfl (fun c1122 => by exact absurd c1122 (q0)) (fun _ => ?_)
    refine pw_aload_n (pc2 := 1126) dL_law_1125 rfl rfl 5 rfl (by first | exact rf_ref _ | exact rf_opt _ | exact rf_nul) ?_
    refine pw_iconst (pc2 := 1127) (v := 0) dL_law_1126 rfl (by decide) ?_
    refine pw_iconst (pc2 := 1128) (v := 0) dL_law_1127 rfl (by decide) ?_
    refine PW.widen (kc' := 277 + 4) (ks' := 1662 + 59) (by omega) (by omega) ?_
    refine pw_lookS (kc := 277) (ks := 1662) (pc2 := 1131) (z_at2 W80 i0 (fun z => absurd z.1 (by decide))) cs_L_189 rfl dL_law_1128 rfl (by omega) rfl (by first | decide | simp [cat_rf, Value.category]) (fun h81 W81 => ?_)
    refine pw_sipush (pc2 := 1134) (v := (-1002)) dL_law_1131 rfl (by decide) ?_
    refine pw_icmp_ne (tgt := 1294) (pc2 := 1137) dL_law_1134 (by decide) rfl (fun c1134 => by exact absurd (by decide) c1134) (fun _ => ?_)
    refine pw_iload (pc2 := 1139) dL_law_1137 rfl 2 rfl ?_
    refine pw_if_le (tgt := 1155) (pc2 := 1142) dL_law_1139 (by decide) rfl (fun c1139 => by exact absurd c1139 (q0)) (fun _ => ?_)
    refine pw_aload_n (pc2 := 1143) dL_law_1142 rfl rfl 5 rfl (by first | exact rf_ref _ | exact rf_opt _ | exact rf_nul) ?_
    refine pw_iconst (pc2 := 1144) (v := 0) dL_law_1143 rfl (by decide) ?_
    refine pw_bipush (pc2 := 1146) (v := 61) dL_law_1144 rfl (by decide) ?_
    refine PW.widen (kc' := 267 + 4) (ks' := 1602 + 59) (by omega) (by omega) ?_
    refine pw_lookS (kc := 267) (ks := 1602) (pc2 := 1149) (z_at2 W81 i0 (fun z => absurd z.2 (by decide))) cs_L_189 rfl dL_law_1146 rfl (by omega) rfl (by first | decide | simp [cat_rf, Value.category]) (fun h82 W82 => ?_)
    refine pw_sipush (pc2 := 1152) (v := (-1002)) dL_law_1149 rfl (by decide) ?_
    refine pw_icmp_ne (tgt := 1294) (pc2 := 1155) dL_law_1152 (by decide) rfl (fun c1152 => by exact absurd (by decide) c1152) (fun _ => ?_)
    refine pw_aload_n (pc2 := 1156) dL_law_1155 rfl rfl 5 rfl (by first | exact rf_ref _ | exact rf_opt _ | exact rf_nul) ?_
    refine pw_iload (pc2 := 1158) dL_law_1156 rfl 1 rfl ?_
    refine pw_iconst (pc2 := 1159) (v := 0) dL_law_1158 rfl (by decide) ?_
    refine PW.widen (kc' := 266 + 1) (ks' := 1596 + 6) (by omega) (by omega) ?_
    refine pw_lookS (kc := 266) (ks := 1596) (pc2 := 1162) (x_ts0 W82 HJ ht) cs_L_115 rfl dL_law_1159 rfl (by omega) rfl (by first | decide | simp [cat_rf, Value.category]) (fun h83 W83 => ?_)
    refine pw_sipush (pc2 := 1165) (v := (-1001)) dL_law_1162 rfl (by decide) ?_
    refine pw_icmp_ne (tgt := 1294) (pc2 := 1168) dL_law_1165 (by decide) rfl (fun c1165 => by exact absurd (by decide) c1165) (fun _ => ?_)
    refine pw_aload_n (pc2 := 1169) dL_law_1168 rfl rfl 5 rfl (by first | exact rf_ref _ | exact rf_opt _ | exact rf_nul) ?_
    refine pw_iconst (pc2 := 1170) (v := (-1)) dL_law_1169 rfl (by decide) ?_
    refine pw_iconst (pc2 := 1171) (v := 1) dL_law_1170 rfl (by decide) ?_
    refine PW.widen (kc' := 265 + 1) (ks' := 1590 + 6) (by omega) (by omega) ?_
    refine pw_lookS (kc := 265) (ks := 1590) (pc2 := 1174) (z_ts1 W83 neg_in) cs_L_115 rfl dL_law_1171 rfl (by omega) rfl (by first | decide | simp [cat_rf, Value.category]) (fun h84 W84 => ?_)
    refine pw_sipush (pc2 := 1177) (v := (-1001)) dL_law_1174 rfl (by decide) ?_
    refine pw_icmp_ne (tgt := 1294) (pc2 := 1180) dL_law_1177 (by decide) rfl (fun c1177 => by exact absurd (by decide) c1177) (fun _ => ?_)
    by_cases hn : nts σ = 0
    · skip
      refine pw_aload_n (pc2 := 1181) dL_law_1180 rfl rfl 5 rfl (by first | exact rf_ref _ | exact rf_opt _ | exact rf_nul) ?_
      refine PW.widen (kc' := 264 + 1) (ks' := 1584 + 6) (by omega) (by omega) ?_
      refine pw_lookS (kc := 264) (ks := 1584) (pc2 := 1184) (k_flk W84 HJ) cs_L_127 rfl dL_law_1181 rfl (by omega) rfl (by first | decide | simp [cat_rf, Value.category]) (fun h85 W85 => ?_)
      refine pw_sipush (pc2 := 1187) (v := (-1001)) dL_law_1184 rfl (by decide) ?_
      refine pw_icmp_ne (tgt := 1194) (pc2 := 1190) dL_law_1187 (by decide) rfl (fun c1187 => by exact absurd (fk_0 hn) c1187) (fun _ => ?_)
      refine pw_iconst (pc2 := 1191) (v := 1) dL_law_1190 rfl (by decide) ?_
      refine pw_goto (tgt := 1195) dL_law_1191 (by decide) ?_
      refine pw_iload (pc2 := 1197) dL_law_1195 rfl 1 rfl ?_
      refine pw_if_ne (tgt := 1204) (pc2 := 1200) dL_law_1197 (by decide) rfl (fun c1197 => by exact absurd (by rw [hn]; rfl) c1197) (fun _ => ?_)
      refine pw_iconst (pc2 := 1201) (v := 1) dL_law_1200 rfl (by decide) ?_
      refine pw_goto (tgt := 1205) dL_law_1201 (by decide) ?_
      refine pw_icmp_ne (tgt := 1294) (pc2 := 1208) dL_law_1205 (by decide) rfl (fun c1205 => by exact absurd (by decide) c1205) (fun _ => ?_)
      refine pw_aload_n (pc2 := 1209) dL_law_1208 rfl rfl 5 rfl (by first | exact rf_ref _ | exact rf_opt _ | exact rf_nul) ?_
      refine pw_bipush (pc2 := 1211) (v := 109) dL_law_1209 rfl (by decide) ?_
      refine pw_iconst (pc2 := 1212) (v := 0) dL_law_1211 rfl (by decide) ?_
      refine pw_iconst (pc2 := 1213) (v := 0) dL_law_1212 rfl (by decide) ?_
      refine PW.widen (kc' := 263 + 1) (ks' := 1578 + 6) (by omega) (by omega) ?_
      refine pw_lookS (kc := 263) (ks := 1578) (pc2 := 1216) (z_mm W85 (fun z => absurd z.1 (by decide))) cs_L_141 rfl dL_law_1213 rfl (by omega) rfl (by first | decide | simp [cat_rf, Value.category]) (fun h86 W86 => ?_)
      refine pw_sipush (pc2 := 1219) (v := (-1001)) dL_law_1216 rfl (by decide) ?_
      refine pw_icmp_ne (tgt := 1294) (pc2 := 1222) dL_law_1219 (by decide) rfl (fun c1219 => by exact absurd (by decide) c1219) (fun _ => ?_)
      refine pw_aload_n (pc2 := 1223) dL_law_1222 rfl rfl 5 rfl (by first | exact rf_ref _ | exact rf_opt _ | exact rf_nul) ?_
      refine pw_bipush (pc2 := 1225) (v := 109) dL_law_1223 rfl (by decide) ?_
      refine pw_iconst (pc2 := 1226) (v := 5) dL_law_1225 rfl (by decide) ?_
      refine pw_iconst (pc2 := 1227) (v := 0) dL_law_1226 rfl (by decide) ?_
      refine PW.widen (kc' := 262 + 1) (ks' := 1572 + 6) (by omega) (by omega) ?_
      refine pw_lookS (kc := 262) (ks := 1572) (pc2 := 1230) (z_mm W86 (fun z => absurd z.2 (by decide))) cs_L_141 rfl dL_law_1227 rfl (by omega) rfl (by first | decide | simp [cat_rf, Value.category]) (fun h87 W87 => ?_)
      refine pw_sipush (pc2 := 1233) (v := (-1001)) dL_law_1230 rfl (by decide) ?_
      refine pw_icmp_ne (tgt := 1294) (pc2 := 1236) dL_law_1233 (by decide) rfl (fun c1233 => by exact absurd (by decide) c1233) (fun _ => ?_)
      refine pw_aload_n (pc2 := 1237) dL_law_1236 rfl rfl 5 rfl (by first | exact rf_ref _ | exact rf_opt _ | exact rf_nul) ?_
      refine pw_bipush (pc2 := 1239) (v := 98) dL_law_1237 rfl (by decide) ?_
      refine pw_iconst (pc2 := 1240) (v := 3) dL_law_1239 rfl (by decide) ?_
      refine pw_iconst (pc2 := 1241) (v := 0) dL_law_1240 rfl (by decide) ?_
      refine PW.widen (kc' := 261 + 1) (ks' := 1566 + 6) (by omega) (by omega) ?_
      refine pw_lookS (kc := 261) (ks := 1566) (pc2 := 1244) (x_mon_b W87 (fun z => absurd z.2 (by decide))) cs_L_141 rfl dL_law_1241 rfl (by omega) rfl (by first | decide | simp [cat_rf, Value.category]) (fun h88 W88 => ?_)
      refine pw_sipush (pc2 := 1247) (v := (-1001)) dL_law_1244 rfl (by decide) ?_
      refine pw_icmp_ne (tgt := 1294) (pc2 := 1250) dL_law_1247 (by decide) rfl (fun c1247 => by exact absurd (by decide) c1247) (fun _ => ?_)
      refine pw_aload_n (pc2 := 1251) dL_law_1250 rfl rfl 5 rfl (by first | exact rf_ref _ | exact rf_opt _ | exact rf_nul) ?_
      refine pw_bipush (pc2 := 1253) (v := 102) dL_law_1251 rfl (by decide) ?_
      refine pw_iconst (pc2 := 1254) (v := 3) dL_law_1253 rfl (by decide) ?_
      refine pw_iconst (pc2 := 1255) (v := 1) dL_law_1254 rfl (by decide) ?_
      refine PW.widen (kc' := 259 + 2) (ks' := 1554 + 12) (by omega) (by omega) ?_
      refine pw_lookS (kc := 259) (ks := 1554) (pc2 := 1258) (z_mf W88 (fun z => absurd z.1.2 (by decide))) cs_L_141 rfl dL_law_1255 rfl (by omega) rfl (by first | decide | simp [cat_rf, Value.category]) (fun h89 W89 => ?_)
      refine pw_sipush (pc2 := 1261) (v := (-1001)) dL_law_1258 rfl (by decide) ?_
      refine pw_icmp_ne (tgt := 1294) (pc2 := 1264) dL_law_1261 (by decide) rfl (fun c1261 => by exact absurd (by decide) c1261) (fun _ => ?_)
      refine pw_aload_n (pc2 := 1265) dL_law_1264 rfl rfl 5 rfl (by first | exact rf_ref _ | exact rf_opt _ | exact rf_nul) ?_
      refine pw_bipush (pc2 := 1267) (v := 102) dL_law_1265 rfl (by decide) ?_
      refine pw_iconst (pc2 := 1268) (v := 0) dL_law_1267 rfl (by decide) ?_
      refine pw_iconst (pc2 := 1269) (v := 0) dL_law_1268 rfl (by decide) ?_
      refine PW.widen (kc' := 257 + 2) (ks' := 1542 + 12) (by omega) (by omega) ?_
      refine pw_lookS (kc := 257) (ks := 1542) (pc2 := 1272) (z_mf W89 (fun z => absurd z.2.1 (by decide))) cs_L_141 rfl dL_law_1269 rfl (by omega) rfl (by first | decide | simp [cat_rf, Value.category]) (fun h90 W90 => ?_)
      refine pw_sipush (pc2 := 1275) (v := (-1001)) dL_law_1272 rfl (by decide) ?_
      refine pw_icmp_ne (tgt := 1294) (pc2 := 1278) dL_law_1275 (by decide) rfl (fun c1275 => by exact absurd (by decide) c1275) (fun _ => ?_)
      refine pw_aload_n (pc2 := 1279) dL_law_1278 rfl rfl 5 rfl (by first | exact rf_ref _ | exact rf_opt _ | exact rf_nul) ?_
      refine pw_bipush (pc2 := 1281) (v := 102) dL_law_1279 rfl (by decide) ?_
      refine pw_iconst (pc2 := 1282) (v := 0) dL_law_1281 rfl (by decide) ?_
      refine pw_sipush (pc2 := 1285) (v := 10000) dL_law_1282 rfl (by decide) ?_
      refine PW.widen (kc' := 255 + 2) (ks' := 1530 + 12) (by omega) (by omega) ?_
      refine pw_lookS (kc := 255) (ks := 1530) (pc2 := 1288) (z_mf W90 (fun z => absurd z.2.2 (by decide))) cs_L_141 rfl dL_law_1285 rfl (by omega) rfl (by first | decide | simp [cat_rf, Value.category]) (fun h91 W91 => ?_)
      refine pw_sipush (pc2 := 1291) (v := (-1001)) dL_law_1288 rfl (by decide) ?_
      refine pw_icmp_eq (tgt := 1296) (pc2 := 1294) dL_law_1291 (by decide) rfl (fun _ => ?_) (fun c1291 => by exact absurd (by decide) c1291)
      refine pw_iconst (pc2 := 1297) (v := 0) dL_law_1296 rfl (by decide) ?_
      refine pw_istore (pc2 := 1299) (L2 := [(9, Value.int 0), (8, Value.int (nI (nts σ))), (7, Value.int (nI (npk σ))), (5, Value.long (sumF σ)), (0, Value.ref sc), (1, Value.ref (A 0 0)), (2, Value.ref (A 60 0)), (3, Value.int (nI (nrl σ)))]) dL_law_1297 rfl (by decide) rfl ?_
      refine pw_iload (pc2 := 1301) dL_law_1299 rfl 0 rfl ?_
      refine pw_iconst (pc2 := 1302) (v := 3) dL_law_1301 rfl (by decide) ?_
      refine pw_icmp_ge (tgt := 1349) (pc2 := 1305) dL_law_1302 (by decide) rfl (fun c1302 => by exact absurd c1302 (by decide)) (fun _ => ?_)
      refine pw_aload_n (pc2 := 1306) dL_law_1305 rfl rfl 5 rfl (by first | exact rf_ref _ | exact rf_opt _ | exact rf_nul) ?_
      refine pw_iload (pc2 := 1308) dL_law_1306 rfl 2 rfl ?_
      refine pw_bipush (pc2 := 1310) (v := 100) dL_law_1308 rfl (by decide) ?_
      refine pw_iload (pc2 := 1312) dL_law_1310 rfl 0 rfl ?_
      refine PW.widen (kc' := 252 + 3) (ks' := 1512 + 18) (by omega) (by omega) ?_
      refine pw_lookS (kc := 252) (ks := 1512) (pc2 := 1315) (z_rl0 W91 hx) cs_L_152 rfl dL_law_1312 rfl (by omega) rfl (by first | decide | simp [cat_rf, Value.category]) (fun h92 W92 => ?_)
      refine pw_sipush (pc2 := 1318) (v := (-1001)) dL_law_1315 rfl (by decide) ?_
      refine pw_icmp_ne (tgt := 1341) (pc2 := 1321) dL_law_1318 (by decide) rfl (fun c1318 => by exact absurd (by decide) c1318) (fun _ => ?_)
      refine pw_iload (pc2 := 1323) dL_law_1321 rfl 2 rfl ?_
      refine pw_if_le (tgt := 1343) (pc2 := 1326) dL_law_1323 (by decide) rfl (fun c1323 => by exact absurd c1323 (q0)) (fun _ => ?_)
      refine pw_aload_n (pc2 := 1327) dL_law_1326 rfl rfl 5 rfl (by first | exact rf_ref _ | exact rf_opt _ | exact rf_nul) ?_
      refine pw_iconst (pc2 := 1328) (v := 0) dL_law_1327 rfl (by decide) ?_
      refine pw_bipush (pc2 := 1330) (v := 99) dL_law_1328 rfl (by decide) ?_
      refine pw_iload (pc2 := 1332) dL_law_1330 rfl 0 rfl ?_
      refine PW.widen (kc' := 249 + 3) (ks' := 1494 + 18) (by omega) (by omega) ?_
      refine pw_lookS (kc := 249) (ks := 1494) (pc2 := 1335) (y_rl0 W92 HJ h0) cs_L_152 rfl dL_law_1332 rfl (by omega) rfl (by first | decide | simp [cat_rf, Value.category]) (fun h93 W93 => ?_)
      refine pw_sipush (pc2 := 1338) (v := (-1002)) dL_law_1335 rfl (by decide) ?_
      refine pw_icmp_eq (tgt := 1343) (pc2 := 1341) dL_law_1338 (by decide) rfl (fun _ => ?_) (fun c1338 => by exact absurd (by decide) c1338)
      refine pw_iinc (pc2 := 1346) (v := 1) (L2 := [(9, Value.int 1), (8, Value.int (nI (nts σ))), (7, Value.int (nI (npk σ))), (5, Value.long (sumF σ)), (0, Value.ref sc), (1, Value.ref (A 0 0)), (2, Value.ref (A 60 0)), (3, Value.int (nI (nrl σ)))]) dL_law_1343 rfl 0 rfl (by decide) (by decide) rfl ?_
      refine pw_goto (tgt := 1299) dL_law_1346 (by decide) ?_
      refine pw_iload (pc2 := 1301) dL_law_1299 rfl 0 rfl ?_
      refine pw_iconst (pc2 := 1302) (v := 3) dL_law_1301 rfl (by decide) ?_
      refine pw_icmp_ge (tgt := 1349) (pc2 := 1305) dL_law_1302 (by decide) rfl (fun c1302 => by exact absurd c1302 (by decide)) (fun _ => ?_)
      refine pw_aload_n (pc2 := 1306) dL_law_1305 rfl rfl 5 rfl (by first | exact rf_ref _ | exact rf_opt _ | exact rf_nul) ?_
      refine pw_iload (pc2 := 1308) dL_law_1306 rfl 2 rfl ?_
      refine pw_bipush (pc2 := 1310) (v := 100) dL_law_1308 rfl (by decide) ?_
      refine pw_iload (pc2 := 1312) dL_law_1310 rfl 0 rfl ?_
      refine PW.widen (kc' := 247 + 2) (ks' := 1482 + 12) (by omega) (by omega) ?_
      refine pw_lookS (kc := 247) (ks := 1482) (pc2 := 1315) (z_rl1 W93 hx) cs_L_152 rfl dL_law_1312 rfl (by omega) rfl (by first | decide | simp [cat_rf, Value.category]) (fun h94 W94 => ?_)
      refine pw_sipush (pc2 := 1318) (v := (-1001)) dL_law_1315 rfl (by decide) ?_
      refine pw_icmp_ne (tgt := 1341) (pc2 := 1321) dL_law_1318 (by decide) rfl (fun c1318 => by exact absurd (by decide) c1318) (fun _ => ?_)
      refine pw_iload (pc2 := 1323) dL_law_1321 rfl 2 rfl ?_
      refine pw_if_le (tgt := 1343) (pc2 := 1326) dL_law_1323 (by decide) rfl (fun c1323 => by exact absurd c1323 (q0)) (fun _ => ?_)
      refine pw_aload_n (pc2 := 1327) dL_law_1326 rfl rfl 5 rfl (by first | exact rf_ref _ | exact rf_opt _ | exact rf_nul) ?_
      refine pw_iconst (pc2 := 1328) (v := 0) dL_law_1327 rfl (by decide) ?_
      refine pw_bipush (pc2 := 1330) (v := 99) dL_law_1328 rfl (by decide) ?_
      refine pw_iload (pc2 := 1332) dL_law_1330 rfl 0 rfl ?_
      refine PW.widen (kc' := 245 + 2) (ks' := 1470 + 12) (by omega) (by omega) ?_
      refine pw_lookS (kc := 245) (ks := 1470) (pc2 := 1335) (y_rl1 W94 HJ h0) cs_L_152 rfl dL_law_1332 rfl (by omega) rfl (by first | decide | simp [cat_rf, Value.category]) (fun h95 W95 => ?_)
      refine pw_sipush (pc2 := 1338) (v := (-1002)) dL_law_1335 rfl (by decide) ?_
      refine pw_icmp_eq (tgt := 1343) (pc2 := 1341) dL_law_1338 (by decide) rfl (fun _ => ?_) (fun c1338 => by exact absurd (by decide) c1338)
      refine pw_iinc (pc2 := 1346) (v := 2) (L2 := [(9, Value.int 2), (8, Value.int (nI (nts σ))), (7, Value.int (nI (npk σ))), (5, Value.long (sumF σ)), (0, Value.ref sc), (1, Value.ref (A 0 0)), (2, Value.ref (A 60 0)), (3, Value.int (nI (nrl σ)))]) dL_law_1343 rfl 0 rfl (by decide) (by decide) rfl ?_
      refine pw_goto (tgt := 1299) dL_law_1346 (by decide) ?_
      refine pw_iload (pc2 := 1301) dL_law_1299 rfl 0 rfl ?_
      refine pw_iconst (pc2 := 1302) (v := 3) dL_law_1301 rfl (by decide) ?_
      refine pw_icmp_ge (tgt := 1349) (pc2 := 1305) dL_law_1302 (by decide) rfl (fun c1302 => by exact absurd c1302 (by decide)) (fun _ => ?_)
      refine pw_aload_n (pc2 := 1306) dL_law_1305 rfl rfl 5 rfl (by first | exact rf_ref _ | exact rf_opt _ | exact rf_nul) ?_
      refine pw_iload (pc2 := 1308) dL_law_1306 rfl 2 rfl ?_
      refine pw_bipush (pc2 := 1310) (v := 100) dL_law_1308 rfl (by decide) ?_
      refine pw_iload (pc2 := 1312) dL_law_1310 rfl 0 rfl ?_
      refine PW.widen (kc' := 241 + 4) (ks' := 1446 + 24) (by omega) (by omega) ?_
      refine pw_lookS (kc := 241) (ks := 1446) (pc2 := 1315) (z_rl2 W95 hx) cs_L_152 rfl dL_law_1312 rfl (by omega) rfl (by first | decide | simp [cat_rf, Value.category]) (fun h96 W96 => ?_)
      refine pw_sipush (pc2 := 1318) (v := (-1001)) dL_law_1315 rfl (by decide) ?_
      refine pw_icmp_ne (tgt := 1341) (pc2 := 1321) dL_law_1318 (by decide) rfl (fun c1318 => by exact absurd (by decide) c1318) (fun _ => ?_)
      refine pw_iload (pc2 := 1323) dL_law_1321 rfl 2 rfl ?_
      refine pw_if_le (tgt := 1343) (pc2 := 1326) dL_law_1323 (by decide) rfl (fun c1323 => by exact absurd c1323 (q0)) (fun _ => ?_)
      refine pw_aload_n (pc2 := 1327) dL_law_1326 rfl rfl 5 rfl (by first | exact rf_ref _ | exact rf_opt _ | exact rf_nul) ?_
      refine pw_iconst (pc2 := 1328) (v := 0) dL_law_1327 rfl (by decide) ?_
      refine pw_bipush (pc2 := 1330) (v := 99) dL_law_1328 rfl (by decide) ?_
      refine pw_iload (pc2 := 1332) dL_law_1330 rfl 0 rfl ?_
      refine PW.widen (kc' := 237 + 4) (ks' := 1422 + 24) (by omega) (by omega) ?_
      refine pw_lookS (kc := 237) (ks := 1422) (pc2 := 1335) (y_rl2 W96 HJ h0) cs_L_152 rfl dL_law_1332 rfl (by omega) rfl (by first | decide | simp [cat_rf, Value.category]) (fun h97 W97 => ?_)
      refine pw_sipush (pc2 := 1338) (v := (-1002)) dL_law_1335 rfl (by decide) ?_
      refine pw_icmp_eq (tgt := 1343) (pc2 := 1341) dL_law_1338 (by decide) rfl (fun _ => ?_) (fun c1338 => by exact absurd (by decide) c1338)
      refine pw_iinc (pc2 := 1346) (v := 3) (L2 := [(9, Value.int 3), (8, Value.int (nI (nts σ))), (7, Value.int (nI (npk σ))), (5, Value.long (sumF σ)), (0, Value.ref sc), (1, Value.ref (A 0 0)), (2, Value.ref (A 60 0)), (3, Value.int (nI (nrl σ)))]) dL_law_1343 rfl 0 rfl (by decide) (by decide) rfl ?_
      refine pw_goto (tgt := 1299) dL_law_1346 (by decide) ?_
      refine pw_iload (pc2 := 1301) dL_law_1299 rfl 0 rfl ?_
      refine pw_iconst (pc2 := 1302) (v := 3) dL_law_1301 rfl (by decide) ?_
      refine pw_icmp_ge (tgt := 1349) (pc2 := 1305) dL_law_1302 (by decide) rfl (fun _ => ?_) (fun c1302 => by exact absurd (by decide) c1302)
      refine pw_aload_n (pc2 := 1350) dL_law_1349 rfl rfl 5 rfl (by first | exact rf_ref _ | exact rf_opt _ | exact rf_nul) ?_
      refine pw_iload (pc2 := 1352) dL_law_1350 rfl 2 rfl ?_
      refine pw_bipush (pc2 := 1354) (v := 100) dL_law_1352 rfl (by decide) ?_
      refine pw_bipush (pc2 := 1356) (v := 10) dL_law_1354 rfl (by decide) ?_
      refine PW.widen (kc' := 234 + 3) (ks' := 1404 + 18) (by omega) (by omega) ?_
      refine pw_lookS (kc := 234) (ks := 1404) (pc2 := 1359) (z_rlL W97 hx) cs_L_152 rfl dL_law_1356 rfl (by omega) rfl (by first | decide | simp [cat_rf, Value.category]) (fun h98 W98 => ?_)
      refine pw_sipush (pc2 := 1362) (v := (-1001)) dL_law_1359 rfl (by decide) ?_
      refine pw_icmp_ne (tgt := 1399) (pc2 := 1365) dL_law_1362 (by decide) rfl (fun c1362 => by exact absurd (by decide) c1362) (fun _ => ?_)
      refine pw_iload (pc2 := 1367) dL_law_1365 rfl 2 rfl ?_
      refine pw_if_eq (tgt := 1385) (pc2 := 1370) dL_law_1367 (by decide) rfl (fun c1367 => by exact absurd c1367 (qz)) (fun _ => ?_)
      refine pw_aload_n (pc2 := 1371) dL_law_1370 rfl rfl 5 rfl (by first | exact rf_ref _ | exact rf_opt _ | exact rf_nul) ?_
      refine pw_iconst (pc2 := 1372) (v := 0) dL_law_1371 rfl (by decide) ?_
      refine pw_bipush (pc2 := 1374) (v := 99) dL_law_1372 rfl (by decide) ?_
      refine pw_bipush (pc2 := 1376) (v := 10) dL_law_1374 rfl (by decide) ?_
      refine PW.widen (kc' := 231 + 3) (ks' := 1386 + 18) (by omega) (by omega) ?_
      refine pw_lookS (kc := 231) (ks := 1386) (pc2 := 1379) (y_rlL W98 HJ h0) cs_L_152 rfl dL_law_1376 rfl (by omega) rfl (by first | decide | simp [cat_rf, Value.category]) (fun h99 W99 => ?_)
      refine pw_sipush (pc2 := 1382) (v := (-1002)) dL_law_1379 rfl (by decide) ?_
      refine pw_icmp_ne (tgt := 1399) (pc2 := 1385) dL_law_1382 (by decide) rfl (fun c1382 => by exact absurd (by decide) c1382) (fun _ => ?_)
      refine pw_aload_n (pc2 := 1386) dL_law_1385 rfl rfl 5 rfl (by first | exact rf_ref _ | exact rf_opt _ | exact rf_nul) ?_
      refine PW.widen (kc' := 101 + 130) (ks' := 606 + 780) (by omega) (by omega) ?_
      refine pw_lookS (kc := 101) (ks := 606) (pc2 := 1389) (c_sum G _ W99 HJ) cs_L_175 rfl dL_law_1386 rfl (by omega) rfl (by first | decide | simp [cat_rf, Value.category]) (fun h100 W100 => ?_)
      refine pw_lload (pc2 := 1391) dL_law_1389 rfl 3 rfl ?_
      refine pw_lcmp (pc2 := 1392) dL_law_1391 rfl ?_
      refine pw_if_ne (tgt := 1399) (pc2 := 1395) dL_law_1392 (by decide) rfl (fun c1392 => by exact absurd (lcmp_eq rfl) c1392) (fun _ => ?_)
      refine pw_iconst (pc2 := 1396) (v := 1) dL_law_1395 rfl (by decide) ?_
      refine pw_goto (tgt := 1400) dL_law_1396 (by decide) ?_
      exact pw_lawret dL_law_1400
    · skip
      refine pw_aload_n (pc2 := 1181) dL_law_1180 rfl rfl 5 rfl (by first | exact rf_ref _ | exact rf_opt _ | exact rf_nul) ?_
      refine PW.widen (kc' := 264 + 1) (ks' := 1584 + 6) (by omega) (by omega) ?_
      refine pw_lookS (kc := 264) (ks := 1584) (pc2 := 1184) (k_flk W84 HJ) cs_L_127 rfl dL_law_1181 rfl (by omega) rfl (by first | decide | simp [cat_rf, Value.category]) (fun h101 W101 => ?_)
      refine pw_sipush (pc2 := 1187) (v := (-1001)) dL_law_1184 rfl (by decide) ?_
      refine pw_icmp_ne (tgt := 1194) (pc2 := 1190) dL_law_1187 (by decide) rfl (fun _ => ?_) (fun c1187 => by exact absurd c1187 (fk_n HJ hs8 hn))
      refine pw_iconst (pc2 := 1195) (v := 0) dL_law_1194 rfl (by decide) ?_
      refine pw_iload (pc2 := 1197) dL_law_1195 rfl 1 rfl ?_
      refine pw_if_ne (tgt := 1204) (pc2 := 1200) dL_law_1197 (by decide) rfl (fun _ => ?_) (fun c1197 => by exact absurd c1197 (ne_n hn (by omega)))
      refine pw_iconst (pc2 := 1205) (v := 0) dL_law_1204 rfl (by decide) ?_
      refine pw_icmp_ne (tgt := 1294) (pc2 := 1208) dL_law_1205 (by decide) rfl (fun c1205 => by exact absurd (by decide) c1205) (fun _ => ?_)
      refine pw_aload_n (pc2 := 1209) dL_law_1208 rfl rfl 5 rfl (by first | exact rf_ref _ | exact rf_opt _ | exact rf_nul) ?_
      refine pw_bipush (pc2 := 1211) (v := 109) dL_law_1209 rfl (by decide) ?_
      refine pw_iconst (pc2 := 1212) (v := 0) dL_law_1211 rfl (by decide) ?_
      refine pw_iconst (pc2 := 1213) (v := 0) dL_law_1212 rfl (by decide) ?_
      refine PW.widen (kc' := 263 + 1) (ks' := 1578 + 6) (by omega) (by omega) ?_
      refine pw_lookS (kc := 263) (ks := 1578) (pc2 := 1216) (z_mm W101 (fun z => absurd z.1 (by decide))) cs_L_141 rfl dL_law_1213 rfl (by omega) rfl (by first | decide | simp [cat_rf, Value.category]) (fun h102 W102 => ?_)
      refine pw_sipush (pc2 := 1219) (v := (-1001)) dL_law_1216 rfl (by decide) ?_
      refine pw_icmp_ne (tgt := 1294) (pc2 := 1222) dL_law_1219 (by decide) rfl (fun c1219 => by exact absurd (by decide) c1219) (fun _ => ?_)
      refine pw_aload_n (pc2 := 1223) dL_law_1222 rfl rfl 5 rfl (by first | exact rf_ref _ | exact rf_opt _ | exact rf_nul) ?_
      refine pw_bipush (pc2 := 1225) (v := 109) dL_law_1223 rfl (by decide) ?_
      refine pw_iconst (pc2 := 1226) (v := 5) dL_law_1225 rfl (by decide) ?_
      refine pw_iconst (pc2 := 1227) (v := 0) dL_law_1226 rfl (by decide) ?_
      refine PW.widen (kc' := 262 + 1) (ks' := 1572 + 6) (by omega) (by omega) ?_
      refine pw_lookS (kc := 262) (ks := 1572) (pc2 := 1230) (z_mm W102 (fun z => absurd z.2 (by decide))) cs_L_141 rfl dL_law_1227 rfl (by omega) rfl (by first | decide | simp [cat_rf, Value.category]) (fun h103 W103 => ?_)
      refine pw_sipush (pc2 := 1233) (v := (-1001)) dL_law_1230 rfl (by decide) ?_
      refine pw_icmp_ne (tgt := 1294) (pc2 := 1236) dL_law_1233 (by decide) rfl (fun c1233 => by exact absurd (by decide) c1233) (fun _ => ?_)
      refine pw_aload_n (pc2 := 1237) dL_law_1236 rfl rfl 5 rfl (by first | exact rf_ref _ | exact rf_opt _ | exact rf_nul) ?_
      refine pw_bipush (pc2 := 1239) (v := 98) dL_law_1237 rfl (by decide) ?_
      refine pw_iconst (pc2 := 1240) (v := 3) dL_law_1239 rfl (by decide) ?_
      refine pw_iconst (pc2 := 1241) (v := 0) dL_law_1240 rfl (by decide) ?_
      refine PW.widen (kc' := 261 + 1) (ks' := 1566 + 6) (by omega) (by omega) ?_
      refine pw_lookS (kc := 261) (ks := 1566) (pc2 := 1244) (x_mon_b W103 (fun z => absurd z.2 (by decide))) cs_L_141 rfl dL_law_1241 rfl (by omega) rfl (by first | decide | simp [cat_rf, Value.category]) (fun h104 W104 => ?_)
      refine pw_sipush (pc2 := 1247) (v := (-1001)) dL_law_1244 rfl (by decide) ?_
      refine pw_icmp_ne (tgt := 1294) (pc2 := 1250) dL_law_1247 (by decide) rfl (fun c1247 => by exact absurd (by decide) c1247) (fun _ => ?_)
      refine pw_aload_n (pc2 := 1251) dL_law_1250 rfl rfl 5 rfl (by first | exact rf_ref _ | exact rf_opt _ | exact rf_nul) ?_
      refine pw_bipush (pc2 := 1253) (v := 102) dL_law_1251 rfl (by decide) ?_
      refine pw_iconst (pc2 := 1254) (v := 3) dL_law_1253 rfl (by decide) ?_
      refine pw_iconst (pc2 := 1255) (v := 1) dL_law_1254 rfl (by decide) ?_
      refine PW.widen (kc' := 259 + 2) (ks' := 1554 + 12) (by omega) (by omega) ?_
      refine pw_lookS (kc := 259) (ks := 1554) (pc2 := 1258) (z_mf W104 (fun z => absurd z.1.2 (by decide))) cs_L_141 rfl dL_law_1255 rfl (by omega) rfl (by first | decide | simp [cat_rf, Value.category]) (fun h105 W105 => ?_)
      refine pw_sipush (pc2 := 1261) (v := (-1001)) dL_law_1258 rfl (by decide) ?_
      refine pw_icmp_ne (tgt := 1294) (pc2 := 1264) dL_law_1261 (by decide) rfl (fun c1261 => by exact absurd (by decide) c1261) (fun _ => ?_)
      refine pw_aload_n (pc2 := 1265) dL_law_1264 rfl rfl 5 rfl (by first | exact rf_ref _ | exact rf_opt _ | exact rf_nul) ?_
      refine pw_bipush (pc2 := 1267) (v := 102) dL_law_1265 rfl (by decide) ?_
      refine pw_iconst (pc2 := 1268) (v := 0) dL_law_1267 rfl (by decide) ?_
      refine pw_iconst (pc2 := 1269) (v := 0) dL_law_1268 rfl (by decide) ?_
      refine PW.widen (kc' := 257 + 2) (ks' := 1542 + 12) (by omega) (by omega) ?_
      refine pw_lookS (kc := 257) (ks := 1542) (pc2 := 1272) (z_mf W105 (fun z => absurd z.2.1 (by decide))) cs_L_141 rfl dL_law_1269 rfl (by omega) rfl (by first | decide | simp [cat_rf, Value.category]) (fun h106 W106 => ?_)
      refine pw_sipush (pc2 := 1275) (v := (-1001)) dL_law_1272 rfl (by decide) ?_
      refine pw_icmp_ne (tgt := 1294) (pc2 := 1278) dL_law_1275 (by decide) rfl (fun c1275 => by exact absurd (by decide) c1275) (fun _ => ?_)
      refine pw_aload_n (pc2 := 1279) dL_law_1278 rfl rfl 5 rfl (by first | exact rf_ref _ | exact rf_opt _ | exact rf_nul) ?_
      refine pw_bipush (pc2 := 1281) (v := 102) dL_law_1279 rfl (by decide) ?_
      refine pw_iconst (pc2 := 1282) (v := 0) dL_law_1281 rfl (by decide) ?_
      refine pw_sipush (pc2 := 1285) (v := 10000) dL_law_1282 rfl (by decide) ?_
      refine PW.widen (kc' := 255 + 2) (ks' := 1530 + 12) (by omega) (by omega) ?_
      refine pw_lookS (kc := 255) (ks := 1530) (pc2 := 1288) (z_mf W106 (fun z => absurd z.2.2 (by decide))) cs_L_141 rfl dL_law_1285 rfl (by omega) rfl (by first | decide | simp [cat_rf, Value.category]) (fun h107 W107 => ?_)
      refine pw_sipush (pc2 := 1291) (v := (-1001)) dL_law_1288 rfl (by decide) ?_
      refine pw_icmp_eq (tgt := 1296) (pc2 := 1294) dL_law_1291 (by decide) rfl (fun _ => ?_) (fun c1291 => by exact absurd (by decide) c1291)
      refine pw_iconst (pc2 := 1297) (v := 0) dL_law_1296 rfl (by decide) ?_
      refine pw_istore (pc2 := 1299) (L2 := [(9, Value.int 0), (8, Value.int (nI (nts σ))), (7, Value.int (nI (npk σ))), (5, Value.long (sumF σ)), (0, Value.ref sc), (1, Value.ref (A 0 0)), (2, Value.ref (A 60 0)), (3, Value.int (nI (nrl σ)))]) dL_law_1297 rfl (by decide) rfl ?_
      refine pw_iload (pc2 := 1301) dL_law_1299 rfl 0 rfl ?_
      refine pw_iconst (pc2 := 1302) (v := 3) dL_law_1301 rfl (by decide) ?_
      refine pw_icmp_ge (tgt := 1349) (pc2 := 1305) dL_law_1302 (by decide) rfl (fun c1302 => by exact absurd c1302 (by decide)) (fun _ => ?_)
      refine pw_aload_n (pc2 := 1306) dL_law_1305 rfl rfl 5 rfl (by first | exact rf_ref _ | exact rf_opt _ | exact rf_nul) ?_
      refine pw_iload (pc2 := 1308) dL_law_1306 rfl 2 rfl ?_
      refine pw_bipush (pc2 := 1310) (v := 100) dL_law_1308 rfl (by decide) ?_
      refine pw_iload (pc2 := 1312) dL_law_1310 rfl 0 rfl ?_
      refine PW.widen (kc' := 252 + 3) (ks' := 1512 + 18) (by omega) (by omega) ?_
      refine pw_lookS (kc := 252) (ks := 1512) (pc2 := 1315) (z_rl0 W107 hx) cs_L_152 rfl dL_law_1312 rfl (by omega) rfl (by first | decide | simp [cat_rf, Value.category]) (fun h108 W108 => ?_)
      refine pw_sipush (pc2 := 1318) (v := (-1001)) dL_law_1315 rfl (by decide) ?_
      refine pw_icmp_ne (tgt := 1341) (pc2 := 1321) dL_law_1318 (by decide) rfl (fun c1318 => by exact absurd (by decide) c1318) (fun _ => ?_)
      refine pw_iload (pc2 := 1323) dL_law_1321 rfl 2 rfl ?_
      refine pw_if_le (tgt := 1343) (pc2 := 1326) dL_law_1323 (by decide) rfl (fun c1323 => by exact absurd c1323 (q0)) (fun _ => ?_)
      refine pw_aload_n (pc2 := 1327) dL_law_1326 rfl rfl 5 rfl (by first | exact rf_ref _ | exact rf_opt _ | exact rf_nul) ?_
      refine pw_iconst (pc2 := 1328) (v := 0) dL_law_1327 rfl (by decide) ?_
      refine pw_bipush (pc2 := 1330) (v := 99) dL_law_1328 rfl (by decide) ?_
      refine pw_iload (pc2 := 1332) dL_law_1330 rfl 0 rfl ?_
      refine PW.widen (kc' := 249 + 3) (ks' := 1494 + 18) (by omega) (by omega) ?_
      refine pw_lookS (kc := 249) (ks := 1494) (pc2 := 1335) (y_rl0 W108 HJ h0) cs_L_152 rfl dL_law_1332 rfl (by omega) rfl (by first | decide | simp [cat_rf, Value.category]) (fun h109 W109 => ?_)
      refine pw_sipush (pc2 := 1338) (v := (-1002)) dL_law_1335 rfl (by decide) ?_
      refine pw_icmp_eq (tgt := 1343) (pc2 := 1341) dL_law_1338 (by decide) rfl (fun _ => ?_) (fun c1338 => by exact absurd (by decide) c1338)
      refine pw_iinc (pc2 := 1346) (v := 1) (L2 := [(9, Value.int 1), (8, Value.int (nI (nts σ))), (7, Value.int (nI (npk σ))), (5, Value.long (sumF σ)), (0, Value.ref sc), (1, Value.ref (A 0 0)), (2, Value.ref (A 60 0)), (3, Value.int (nI (nrl σ)))]) dL_law_1343 rfl 0 rfl (by decide) (by decide) rfl ?_
      refine pw_goto (tgt := 1299) dL_law_1346 (by decide) ?_
      refine pw_iload (pc2 := 1301) dL_law_1299 rfl 0 rfl ?_
      refine pw_iconst (pc2 := 1302) (v := 3) dL_law_1301 rfl (by decide) ?_
      refine pw_icmp_ge (tgt := 1349) (pc2 := 1305) dL_law_1302 (by decide) rfl (fun c1302 => by exact absurd c1302 (by decide)) (fun _ => ?_)
      refine pw_aload_n (pc2 := 1306) dL_law_1305 rfl rfl 5 rfl (by first | exact rf_ref _ | exact rf_opt _ | exact rf_nul) ?_
      refine pw_iload (pc2 := 1308) dL_law_1306 rfl 2 rfl ?_
      refine pw_bipush (pc2 := 1310) (v := 100) dL_law_1308 rfl (by decide) ?_
      refine pw_iload (pc2 := 1312) dL_law_1310 rfl 0 rfl ?_
      refine PW.widen (kc' := 247 + 2) (ks' := 1482 + 12) (by omega) (by omega) ?_
      refine pw_lookS (kc := 247) (ks := 1482) (pc2 := 1315) (z_rl1 W109 hx) cs_L_152 rfl dL_law_1312 rfl (by omega) rfl (by first | decide | simp [cat_rf, Value.category]) (fun h110 W110 => ?_)
      refine pw_sipush (pc2 := 1318) (v := (-1001)) dL_law_1315 rfl (by decide) ?_
      refine pw_icmp_ne (tgt := 1341) (pc2 := 1321) dL_law_1318 (by decide) rfl (fun c1318 => by exact absurd (by decide) c1318) (fun _ => ?_)
      refine pw_iload (pc2 := 1323) dL_law_1321 rfl 2 rfl ?_
      refine pw_if_le (tgt := 1343) (pc2 := 1326) dL_law_1323 (by decide) rfl (fun c1323 => by exact absurd c1323 (q0)) (fun _ => ?_)
      refine pw_aload_n (pc2 := 1327) dL_law_1326 rfl rfl 5 rfl (by first | exact rf_ref _ | exact rf_opt _ | exact rf_nul) ?_
      refine pw_iconst (pc2 := 1328) (v := 0) dL_law_1327 rfl (by decide) ?_
      refine pw_bipush (pc2 := 1330) (v := 99) dL_law_1328 rfl (by decide) ?_
      refine pw_iload (pc2 := 1332) dL_law_1330 rfl 0 rfl ?_
      refine PW.widen (kc' := 245 + 2) (ks' := 1470 + 12) (by omega) (by omega) ?_
      refine pw_lookS (kc := 245) (ks := 1470) (pc2 := 1335) (y_rl1 W110 HJ h0) cs_L_152 rfl dL_law_1332 rfl (by omega) rfl (by first | decide | simp [cat_rf, Value.category]) (fun h111 W111 => ?_)
      refine pw_sipush (pc2 := 1338) (v := (-1002)) dL_law_1335 rfl (by decide) ?_
      refine pw_icmp_eq (tgt := 1343) (pc2 := 1341) dL_law_1338 (by decide) rfl (fun _ => ?_) (fun c1338 => by exact absurd (by decide) c1338)
      refine pw_iinc (pc2 := 1346) (v := 2) (L2 := [(9, Value.int 2), (8, Value.int (nI (nts σ))), (7, Value.int (nI (npk σ))), (5, Value.long (sumF σ)), (0, Value.ref sc), (1, Value.ref (A 0 0)), (2, Value.ref (A 60 0)), (3, Value.int (nI (nrl σ)))]) dL_law_1343 rfl 0 rfl (by decide) (by decide) rfl ?_
      refine pw_goto (tgt := 1299) dL_law_1346 (by decide) ?_
      refine pw_iload (pc2 := 1301) dL_law_1299 rfl 0 rfl ?_
      refine pw_iconst (pc2 := 1302) (v := 3) dL_law_1301 rfl (by decide) ?_
      refine pw_icmp_ge (tgt := 1349) (pc2 := 1305) dL_law_1302 (by decide) rfl (fun c1302 => by exact absurd c1302 (by decide)) (fun _ => ?_)
      refine pw_aload_n (pc2 := 1306) dL_law_1305 rfl rfl 5 rfl (by first | exact rf_ref _ | exact rf_opt _ | exact rf_nul) ?_
      refine pw_iload (pc2 := 1308) dL_law_1306 rfl 2 rfl ?_
      refine pw_bipush (pc2 := 1310) (v := 100) dL_law_1308 rfl (by decide) ?_
      refine pw_iload (pc2 := 1312) dL_law_1310 rfl 0 rfl ?_
      refine PW.widen (kc' := 241 + 4) (ks' := 1446 + 24) (by omega) (by omega) ?_
      refine pw_lookS (kc := 241) (ks := 1446) (pc2 := 1315) (z_rl2 W111 hx) cs_L_152 rfl dL_law_1312 rfl (by omega) rfl (by first | decide | simp [cat_rf, Value.category]) (fun h112 W112 => ?_)
      refine pw_sipush (pc2 := 1318) (v := (-1001)) dL_law_1315 rfl (by decide) ?_
      refine pw_icmp_ne (tgt := 1341) (pc2 := 1321) dL_law_1318 (by decide) rfl (fun c1318 => by exact absurd (by decide) c1318) (fun _ => ?_)
      refine pw_iload (pc2 := 1323) dL_law_1321 rfl 2 rfl ?_
      refine pw_if_le (tgt := 1343) (pc2 := 1326) dL_law_1323 (by decide) rfl (fun c1323 => by exact absurd c1323 (q0)) (fun _ => ?_)
      refine pw_aload_n (pc2 := 1327) dL_law_1326 rfl rfl 5 rfl (by first | exact rf_ref _ | exact rf_opt _ | exact rf_nul) ?_
      refine pw_iconst (pc2 := 1328) (v := 0) dL_law_1327 rfl (by decide) ?_
      refine pw_bipush (pc2 := 1330) (v := 99) dL_law_1328 rfl (by decide) ?_
      refine pw_iload (pc2 := 1332) dL_law_1330 rfl 0 rfl ?_
      refine PW.widen (kc' := 237 + 4) (ks' := 1422 + 24) (by omega) (by omega) ?_
      refine pw_lookS (kc := 237) (ks := 1422) (pc2 := 1335) (y_rl2 W112 HJ h0) cs_L_152 rfl dL_law_1332 rfl (by omega) rfl (by first | decide | simp [cat_rf, Value.category]) (fun h113 W113 => ?_)
      refine pw_sipush (pc2 := 1338) (v := (-1002)) dL_law_1335 rfl (by decide) ?_
      refine pw_icmp_eq (tgt := 1343) (pc2 := 1341) dL_law_1338 (by decide) rfl (fun _ => ?_) (fun c1338 => by exact absurd (by decide) c1338)
      refine pw_iinc (pc2 := 1346) (v := 3) (L2 := [(9, Value.int 3), (8, Value.int (nI (nts σ))), (7, Value.int (nI (npk σ))), (5, Value.long (sumF σ)), (0, Value.ref sc), (1, Value.ref (A 0 0)), (2, Value.ref (A 60 0)), (3, Value.int (nI (nrl σ)))]) dL_law_1343 rfl 0 rfl (by decide) (by decide) rfl ?_
      refine pw_goto (tgt := 1299) dL_law_1346 (by decide) ?_
      refine pw_iload (pc2 := 1301) dL_law_1299 rfl 0 rfl ?_
      refine pw_iconst (pc2 := 1302) (v := 3) dL_law_1301 rfl (by decide) ?_
      refine pw_icmp_ge (tgt := 1349) (pc2 := 1305) dL_law_1302 (by decide) rfl (fun _ => ?_) (fun c1302 => by exact absurd (by decide) c1302)
      refine pw_aload_n (pc2 := 1350) dL_law_1349 rfl rfl 5 rfl (by first | exact rf_ref _ | exact rf_opt _ | exact rf_nul) ?_
      refine pw_iload (pc2 := 1352) dL_law_1350 rfl 2 rfl ?_
      refine pw_bipush (pc2 := 1354) (v := 100) dL_law_1352 rfl (by decide) ?_
      refine pw_bipush (pc2 := 1356) (v := 10) dL_law_1354 rfl (by decide) ?_
      refine PW.widen (kc' := 234 + 3) (ks' := 1404 + 18) (by omega) (by omega) ?_
      refine pw_lookS (kc := 234) (ks := 1404) (pc2 := 1359) (z_rlL W113 hx) cs_L_152 rfl dL_law_1356 rfl (by omega) rfl (by first | decide | simp [cat_rf, Value.category]) (fun h114 W114 => ?_)
      refine pw_sipush (pc2 := 1362) (v := (-1001)) dL_law_1359 rfl (by decide) ?_
      refine pw_icmp_ne (tgt := 1399) (pc2 := 1365) dL_law_1362 (by decide) rfl (fun c1362 => by exact absurd (by decide) c1362) (fun _ => ?_)
      refine pw_iload (pc2 := 1367) dL_law_1365 rfl 2 rfl ?_
      refine pw_if_eq (tgt := 1385) (pc2 := 1370) dL_law_1367 (by decide) rfl (fun c1367 => by exact absurd c1367 (qz)) (fun _ => ?_)
      refine pw_aload_n (pc2 := 1371) dL_law_1370 rfl rfl 5 rfl (by first | exact rf_ref _ | exact rf_opt _ | exact rf_nul) ?_
      refine pw_iconst (pc2 := 1372) (v := 0) dL_law_1371 rfl (by decide) ?_
      refine pw_bipush (pc2 := 1374) (v := 99) dL_law_1372 rfl (by decide) ?_
      refine pw_bipush (pc2 := 1376) (v := 10) dL_law_1374 rfl (by decide) ?_
      refine PW.widen (kc' := 231 + 3) (ks' := 1386 + 18) (by omega) (by omega) ?_
      refine pw_lookS (kc := 231) (ks := 1386) (pc2 := 1379) (y_rlL W114 HJ h0) cs_L_152 rfl dL_law_1376 rfl (by omega) rfl (by first | decide | simp [cat_rf, Value.category]) (fun h115 W115 => ?_)
      refine pw_sipush (pc2 := 1382) (v := (-1002)) dL_law_1379 rfl (by decide) ?_
      refine pw_icmp_ne (tgt := 1399) (pc2 := 1385) dL_law_1382 (by decide) rfl (fun c1382 => by exact absurd (by decide) c1382) (fun _ => ?_)
      refine pw_aload_n (pc2 := 1386) dL_law_1385 rfl rfl 5 rfl (by first | exact rf_ref _ | exact rf_opt _ | exact rf_nul) ?_
      refine PW.widen (kc' := 101 + 130) (ks' := 606 + 780) (by omega) (by omega) ?_
      refine pw_lookS (kc := 101) (ks := 606) (pc2 := 1389) (c_sum G _ W115 HJ) cs_L_175 rfl dL_law_1386 rfl (by omega) rfl (by first | decide | simp [cat_rf, Value.category]) (fun h116 W116 => ?_)
      refine pw_lload (pc2 := 1391) dL_law_1389 rfl 3 rfl ?_
      refine pw_lcmp (pc2 := 1392) dL_law_1391 rfl ?_
      refine pw_if_ne (tgt := 1399) (pc2 := 1395) dL_law_1392 (by decide) rfl (fun c1392 => by exact absurd (lcmp_eq rfl) c1392) (fun _ => ?_)
      refine pw_iconst (pc2 := 1396) (v := 1) dL_law_1395 rfl (by decide) ?_
      refine pw_goto (tgt := 1400) dL_law_1396 (by decide) ?_
      exact pw_lawret dL_law_1400
  · have h0 : 0 < npk σ := by omega
    have i0 : inR 0 (npk σ) := inR_of (p := 0) (np_lt (by omega)) h0
    have q0 : ¬ nI (npk σ) ≤ 0 := fun z => by have := (nI_leI (a := npk σ) (b := 0) (by omega) (by omega)).mp z; omega
    have qz : ¬ nI (npk σ) = 0 := ne_n (by omega) (by omega)
    have q1 : ¬ nI (npk σ) ≤ 1 := fun z => by have := (nI_leI (a := npk σ) (b := 1) (by omega) (by omega)).mp z; omega
    have i1 : inR 1 (npk σ) := inR_of (p := 1) (np_lt (by omega)) (by omega)
    refine pw_aload_n (pc2 := 774) dL_law_773 rfl rfl 1 rfl (by first | exact rf_ref _ | exact rf_opt _ | exact rf_nul) ?_
    refine pw_aload_n (pc2 := 775) dL_law_774 rfl rfl 2 rfl (by first | exact rf_ref _ | exact rf_opt _ | exact rf_nul) ?_
    refine pw_iload_n (pc2 := 776) dL_law_775 rfl rfl 3 rfl ?_
    refine PW.widen (kc' := 560 + 940) (ks' := 3360 + 5640) (by omega) (by omega) ?_
    refine pw_lookS (kc := 560) (ks := 3360) (pc2 := 779) (c_sound G _ HW HJ HD) cs_L_191 rfl dL_law_776 rfl (by omega) rfl (by first | decide | simp [cat_rf, Value.category]) (fun h117 W117 => ?_)
    refine pw_if_ne (tgt := 784) (pc2 := 782) dL_law_779 (by decide) rfl (fun _ => ?_) (fun c779 => by exact absurd c779 (by decide))
    refine pw_aload_n (pc2 := 785) dL_law_784 rfl rfl 1 rfl (by first | exact rf_ref _ | exact rf_opt _ | exact rf_nul) ?_
    refine PW.widen (kc' := 430 + 130) (ks' := 2580 + 780) (by omega) (by omega) ?_
    refine pw_lookS (kc := 430) (ks := 2580) (pc2 := 788) (c_sum G _ W117 HJ) cs_L_175 rfl dL_law_785 rfl (by omega) rfl (by first | decide | simp [cat_rf, Value.category]) (fun h118 W118 => ?_)
    refine pw_lstore (pc2 := 790) (L2 := [(5, Value.long (sumF σ)), (0, Value.ref sc), (1, Value.ref (A 0 0)), (2, Value.ref (A 60 0)), (3, Value.int (nI (nrl σ)))]) dL_law_788 rfl (by decide) rfl ?_
    refine pw_aload_n (pc2 := 791) dL_law_790 rfl rfl 2 rfl (by first | exact rf_ref _ | exact rf_opt _ | exact rf_nul) ?_
    refine PW.widen (kc' := 423 + 7) (ks' := 2538 + 42) (by omega) (by omega) ?_
    refine pw_lookS (kc := 423) (ks := 2538) (pc2 := 794) (c_packs G _ W118 HJ) cs_L_118 rfl dL_law_791 rfl (by omega) rfl (by first | decide | simp [cat_rf, Value.category]) (fun h119 W119 => ?_)
    refine pw_istore (pc2 := 796) (L2 := [(7, Value.int (nI (npk σ))), (5, Value.long (sumF σ)), (0, Value.ref sc), (1, Value.ref (A 0 0)), (2, Value.ref (A 60 0)), (3, Value.int (nI (nrl σ)))]) dL_law_794 rfl (by decide) rfl ?_
    refine pw_aload_n (pc2 := 797) dL_law_796 rfl rfl 3 rfl (by first | exact rf_ref _ | exact rf_opt _ | exact rf_nul) ?_
    refine PW.widen (kc' := 414 + 9) (ks' := 2484 + 54) (by omega) (by omega) ?_
    refine pw_lookS (kc := 414) (ks := 2484) (pc2 := 800) (c_many G _ W119 HJ) cs_L_156 rfl dL_law_797 rfl (by omega) rfl (by first | decide | simp [cat_rf, Value.category]) (fun h120 W120 => ?_)
    refine pw_istore (pc2 := 802) (L2 := [(8, Value.int (nI (nts σ))), (7, Value.int (nI (npk σ))), (5, Value.long (sumF σ)), (0, Value.ref sc), (1, Value.ref (A 0 0)), (2, Value.ref (A 60 0)), (3, Value.int (nI (nrl σ)))]) dL_law_800 rfl (by decide) rfl ?_
    refine pw_aload_n (pc2 := 803) dL_law_802 rfl rfl 4 rfl (by first | exact rf_ref _ | exact rf_opt _ | exact rf_nul) ?_
    refine pw_iconst (pc2 := 804) (v := 3) dL_law_803 rfl (by decide) ?_
    refine PW.widen (kc' := 396 + 17) (ks' := 2376 + 108) (by omega) (by omega) ?_
    refine pw_lookS (kc := 396) (ks := 2376) (pc2 := 807) (z_pack W120 (by decide)) cs_L_179 rfl dL_law_804 rfl (by omega) rfl (by first | decide | simp [cat_rf, Value.category]) (fun h121 W121 => ?_)
    refine pw_sipush (pc2 := 810) (v := (-1001)) dL_law_807 rfl (by decide) ?_
    refine pw_icmp_ne (tgt := 1060) (pc2 := 813) dL_law_810 (by decide) rfl (fun c810 => by exact absurd (by decide) c810) (fun _ => ?_)
    refine pw_aload_n (pc2 := 814) dL_law_813 rfl rfl 4 rfl (by first | exact rf_ref _ | exact rf_opt _ | exact rf_nul) ?_
    refine pw_iconst (pc2 := 815) (v := (-1)) dL_law_814 rfl (by decide) ?_
    refine PW.widen (kc' := 378 + 17) (ks' := 2268 + 108) (by omega) (by omega) ?_
    refine pw_lookS (kc := 378) (ks := 2268) (pc2 := 818) (z_pack W121 (by decide)) cs_L_179 rfl dL_law_815 rfl (by omega) rfl (by first | decide | simp [cat_rf, Value.category]) (fun h122 W122 => ?_)
    refine pw_sipush (pc2 := 821) (v := (-1001)) dL_law_818 rfl (by decide) ?_
    refine pw_icmp_ne (tgt := 1060) (pc2 := 824) dL_law_821 (by decide) rfl (fun c821 => by exact absurd (by decide) c821) (fun _ => ?_)
    refine pw_aload_n (pc2 := 825) dL_law_824 rfl rfl 4 rfl (by first | exact rf_ref _ | exact rf_opt _ | exact rf_nul) ?_
    refine pw_iload (pc2 := 827) dL_law_825 rfl 1 rfl ?_
    refine pw_sipush (pc2 := 830) (v := 1000) dL_law_827 rfl (by decide) ?_
    refine pw_iconst (pc2 := 831) (v := 0) dL_law_830 rfl (by decide) ?_
    refine PW.widen (kc' := 376 + 2) (ks' := 2256 + 12) (by omega) (by omega) ?_
    refine pw_lookS (kc := 376) (ks := 2256) (pc2 := 834) (z_src1 W122 hx) cs_L_183 rfl dL_law_831 rfl (by omega) rfl (by first | decide | simp [cat_rf, Value.category]) (fun h123 W123 => ?_)
    refine pw_sipush (pc2 := 837) (v := (-1001)) dL_law_834 rfl (by decide) ?_
    refine pw_icmp_ne (tgt := 1060) (pc2 := 840) dL_law_837 (by decide) rfl (fun c837 => by exact absurd (by decide) c837) (fun _ => ?_)
    refine pw_iload (pc2 := 842) dL_law_840 rfl 1 rfl ?_
    refine pw_if_le (tgt := 860) (pc2 := 845) dL_law_842 (by decide) rfl (fun c842 => by exact absurd c842 (q0)) (fun _ => ?_)
    refine pw_aload_n (pc2 := 846) dL_law_845 rfl rfl 4 rfl (by first | exact rf_ref _ | exact rf_opt _ | exact rf_nul) ?_
    refine pw_iconst (pc2 := 847) (v := 0) dL_law_846 rfl (by decide) ?_
    refine pw_sipush (pc2 := 850) (v := 1000) dL_law_847 rfl (by decide) ?_
    refine pw_iconst (pc2 := 851) (v := 0) dL_law_850 rfl (by decide) ?_
    refine PW.widen (kc' := 374 + 2) (ks' := 2244 + 12) (by omega) (by omega) ?_
    refine pw_lookS (kc := 374) (ks := 2244) (pc2 := 854) (z_src2 W123 i0 (fun z => absurd z.1.2 (by decide))) cs_L_183 rfl dL_law_851 rfl (by omega) rfl (by first | decide | simp [cat_rf, Value.category]) (fun h124 W124 => ?_)
    refine pw_sipush (pc2 := 857) (v := (-1002)) dL_law_854 rfl (by decide) ?_
    refine pw_icmp_ne (tgt := 1060) (pc2 := 860) dL_law_857 (by decide) rfl (fun c857 => by exact absurd (by decide) c857) (fun _ => ?_)
    refine pw_iload (pc2 := 862) dL_law_860 rfl 1 rfl ?_
    refine pw_if_le (tgt := 878) (pc2 := 865) dL_law_862 (by decide) rfl (fun c862 => by exact absurd c862 (q0)) (fun _ => ?_)
    refine pw_aload_n (pc2 := 866) dL_law_865 rfl rfl 4 rfl (by first | exact rf_ref _ | exact rf_opt _ | exact rf_nul) ?_
    refine pw_iconst (pc2 := 867) (v := 0) dL_law_866 rfl (by decide) ?_
    refine pw_iconst (pc2 := 868) (v := 0) dL_law_867 rfl (by decide) ?_
    refine pw_iconst (pc2 := 869) (v := (-1)) dL_law_868 rfl (by decide) ?_
    refine PW.widen (kc' := 372 + 2) (ks' := 2232 + 12) (by omega) (by omega) ?_
    refine pw_lookS (kc := 372) (ks := 2232) (pc2 := 872) (z_src2 W124 i0 (fun z => absurd z.2.1 (by decide))) cs_L_183 rfl dL_law_869 rfl (by omega) rfl (by first | decide | simp [cat_rf, Value.category]) (fun h125 W125 => ?_)
    refine pw_sipush (pc2 := 875) (v := (-1002)) dL_law_872 rfl (by decide) ?_
    refine pw_icmp_ne (tgt := 1060) (pc2 := 878) dL_law_875 (by decide) rfl (fun c875 => by exact absurd (by decide) c875) (fun _ => ?_)
    refine pw_aload_n (pc2 := 879) dL_law_878 rfl rfl 4 rfl (by first | exact rf_ref _ | exact rf_opt _ | exact rf_nul) ?_
    refine pw_iload (pc2 := 881) dL_law_879 rfl 1 rfl ?_
    refine pw_iconst (pc2 := 882) (v := 0) dL_law_881 rfl (by decide) ?_
    refine pw_iconst (pc2 := 883) (v := 0) dL_law_882 rfl (by decide) ?_
    refine pw_iconst (pc2 := 884) (v := 0) dL_law_883 rfl (by decide) ?_
    refine PW.widen (kc' := 369 + 3) (ks' := 2214 + 18) (by omega) (by omega) ?_
    refine pw_lookS (kc := 369) (ks := 2214) (pc2 := 887) (z_nd1 W125 (by decide) (fun z => hx z.1)) cs_L_186 rfl dL_law_884 rfl (by omega) rfl (by first | decide | simp [cat_rf, Value.category]) (fun h126 W126 => ?_)
    refine pw_sipush (pc2 := 890) (v := (-1001)) dL_law_887 rfl (by decide) ?_
    refine pw_icmp_ne (tgt := 1060) (pc2 := 893) dL_law_890 (by decide) rfl (fun c890 => by exact absurd (by decide) c890) (fun _ => ?_)
    refine pw_aload_n (pc2 := 894) dL_law_893 rfl rfl 4 rfl (by first | exact rf_ref _ | exact rf_opt _ | exact rf_nul) ?_
    refine pw_iconst (pc2 := 895) (v := 0) dL_law_894 rfl (by decide) ?_
    refine pw_iload (pc2 := 897) dL_law_895 rfl 1 rfl ?_
    refine pw_bipush (pc2 := 899) (v := 100) dL_law_897 rfl (by decide) ?_
    refine pw_bipush (pc2 := 901) (v := 100) dL_law_899 rfl (by decide) ?_
    refine PW.widen (kc' := 366 + 3) (ks' := 2196 + 18) (by omega) (by omega) ?_
    refine pw_lookS (kc := 366) (ks := 2196) (pc2 := 904) (z_nd1 W126 (by decide) (fun z => hx z.2)) cs_L_186 rfl dL_law_901 rfl (by omega) rfl (by first | decide | simp [cat_rf, Value.category]) (fun h127 W127 => ?_)
    refine pw_sipush (pc2 := 907) (v := (-1001)) dL_law_904 rfl (by decide) ?_
    refine pw_icmp_ne (tgt := 1060) (pc2 := 910) dL_law_907 (by decide) rfl (fun c907 => by exact absurd (by decide) c907) (fun _ => ?_)
    refine pw_iload (pc2 := 912) dL_law_910 rfl 1 rfl ?_
    refine pw_if_le (tgt := 931) (pc2 := 915) dL_law_912 (by decide) rfl (fun c912 => by exact absurd c912 (q0)) (fun _ => ?_)
    refine pw_aload_n (pc2 := 916) dL_law_915 rfl rfl 4 rfl (by first | exact rf_ref _ | exact rf_opt _ | exact rf_nul) ?_
    refine pw_iconst (pc2 := 917) (v := 0) dL_law_916 rfl (by decide) ?_
    refine pw_iconst (pc2 := 918) (v := 0) dL_law_917 rfl (by decide) ?_
    refine pw_bipush (pc2 := 920) (v := 100) dL_law_918 rfl (by decide) ?_
    refine pw_bipush (pc2 := 922) (v := 100) dL_law_920 rfl (by decide) ?_
    refine PW.widen (kc' := 363 + 3) (ks' := 2178 + 18) (by omega) (by omega) ?_
    refine pw_lookS (kc := 363) (ks := 2178) (pc2 := 925) (z_nd2 W127 (by decide) ⟨i0, i0⟩ (fun z => absurd z.1 (by decide))) cs_L_186 rfl dL_law_922 rfl (by omega) rfl (by first | decide | simp [cat_rf, Value.category]) (fun h128 W128 => ?_)
    refine pw_sipush (pc2 := 928) (v := (-1002)) dL_law_925 rfl (by decide) ?_
    refine pw_icmp_ne (tgt := 1060) (pc2 := 931) dL_law_928 (by decide) rfl (fun c928 => by exact absurd (by decide) c928) (fun _ => ?_)
    refine pw_iload (pc2 := 933) dL_law_931 rfl 1 rfl ?_
    refine pw_iconst (pc2 := 934) (v := 1) dL_law_933 rfl (by decide) ?_
    refine pw_icmp_le (tgt := 953) (pc2 := 937) dL_law_934 (by decide) rfl (fun c934 => by exact absurd c934 (q1)) (fun _ => ?_)
    refine pw_aload_n (pc2 := 938) dL_law_937 rfl rfl 4 rfl (by first | exact rf_ref _ | exact rf_opt _ | exact rf_nul) ?_
    refine pw_iconst (pc2 := 939) (v := 1) dL_law_938 rfl (by decide) ?_
    refine pw_iconst (pc2 := 940) (v := 0) dL_law_939 rfl (by decide) ?_
    refine pw_bipush (pc2 := 942) (v := 99) dL_law_940 rfl (by decide) ?_
    refine pw_bipush (pc2 := 944) (v := 100) dL_law_942 rfl (by decide) ?_
    refine PW.widen (kc' := 360 + 3) (ks' := 2160 + 18) (by omega) (by omega) ?_
    refine pw_lookS (kc := 360) (ks := 2160) (pc2 := 947) (z_nd2 W128 (by decide) ⟨i1, i0⟩ (fun z => absurd z.2.1.1 (by decide))) cs_L_186 rfl dL_law_944 rfl (by omega) rfl (by first | decide | simp [cat_rf, Value.category]) (fun h129 W129 => ?_)
    refine pw_sipush (pc2 := 950) (v := (-1002)) dL_law_947 rfl (by decide) ?_
    refine pw_icmp_ne (tgt := 1060) (pc2 := 953) dL_law_950 (by decide) rfl (fun c950 => by exact absurd (by decide) c950) (fun _ => ?_)
    refine pw_iload (pc2 := 955) dL_law_953 rfl 1 rfl ?_
    refine pw_iconst (pc2 := 956) (v := 1) dL_law_955 rfl (by decide) ?_
    refine pw_icmp_le (tgt := 975) (pc2 := 959) dL_law_956 (by decide) rfl (fun c956 => by exact absurd c956 (q1)) (fun _ => ?_)
    refine pw_aload_n (pc2 := 960) dL_law_959 rfl rfl 4 rfl (by first | exact rf_ref _ | exact rf_opt _ | exact rf_nul) ?_
    refine pw_iconst (pc2 := 961) (v := 1) dL_law_960 rfl (by decide) ?_
    refine pw_iconst (pc2 := 962) (v := 0) dL_law_961 rfl (by decide) ?_
    refine pw_bipush (pc2 := 964) (v := 101) dL_law_962 rfl (by decide) ?_
    refine pw_bipush (pc2 := 966) (v := 100) dL_law_964 rfl (by decide) ?_
    refine PW.widen (kc' := 357 + 3) (ks' := 2142 + 18) (by omega) (by omega) ?_
    refine pw_lookS (kc := 357) (ks := 2142) (pc2 := 969) (z_nd2 W129 (by decide) ⟨i1, i0⟩ (fun z => absurd z.2.2.1 (by decide))) cs_L_186 rfl dL_law_966 rfl (by omega) rfl (by first | decide | simp [cat_rf, Value.category]) (fun h130 W130 => ?_)
    refine pw_sipush (pc2 := 972) (v := (-1002)) dL_law_969 rfl (by decide) ?_
    refine pw_icmp_ne (tgt := 1060) (pc2 := 975) dL_law_972 (by decide) rfl (fun c972 => by exact absurd (by decide) c972) (fun _ => ?_)
    refine pw_iload (pc2 := 977) dL_law_975 rfl 1 rfl ?_
    refine pw_iconst (pc2 := 978) (v := 1) dL_law_977 rfl (by decide) ?_
    refine pw_icmp_le (tgt := 998) (pc2 := 981) dL_law_978 (by decide) rfl (fun c978 => by exact absurd c978 (q1)) (fun _ => ?_)
    refine pw_aload_n (pc2 := 982) dL_law_981 rfl rfl 4 rfl (by first | exact rf_ref _ | exact rf_opt _ | exact rf_nul) ?_
    refine pw_iconst (pc2 := 983) (v := 1) dL_law_982 rfl (by decide) ?_
    refine pw_iconst (pc2 := 984) (v := 0) dL_law_983 rfl (by decide) ?_
    refine pw_bipush (pc2 := 986) (v := 100) dL_law_984 rfl (by decide) ?_
    refine pw_sipush (pc2 := 989) (v := 1000) dL_law_986 rfl (by decide) ?_
    refine PW.widen (kc' := 354 + 3) (ks' := 2124 + 18) (by omega) (by omega) ?_
    refine pw_lookS (kc := 354) (ks := 2124) (pc2 := 992) (z_nd2 W130 (by decide) ⟨i1, i0⟩ (fun z => absurd z.2.2.2 (by decide))) cs_L_186 rfl dL_law_989 rfl (by omega) rfl (by first | decide | simp [cat_rf, Value.category]) (fun h131 W131 => ?_)
    refine pw_sipush (pc2 := 995) (v := (-1002)) dL_law_992 rfl (by decide) ?_
    refine pw_icmp_ne (tgt := 1060) (pc2 := 998) dL_law_995 (by decide) rfl (fun c995 => by exact absurd (by decide) c995) (fun _ => ?_)
    refine pw_aload_n (pc2 := 999) dL_law_998 rfl rfl 4 rfl (by first | exact rf_ref _ | exact rf_opt _ | exact rf_nul) ?_
    refine pw_iload (pc2 := 1001) dL_law_999 rfl 1 rfl ?_
    refine pw_iconst (pc2 := 1002) (v := 0) dL_law_1001 rfl (by decide) ?_
    refine pw_iconst (pc2 := 1003) (v := (-1)) dL_law_1002 rfl (by decide) ?_
    refine pw_iconst (pc2 := 1004) (v := 0) dL_law_1003 rfl (by decide) ?_
    refine PW.widen (kc' := 351 + 3) (ks' := 2106 + 18) (by omega) (by omega) ?_
    refine pw_lookS (kc := 351) (ks := 2106) (pc2 := 1007) (z_dn1 W131 (fun z => hx z.1)) cs_L_186 rfl dL_law_1004 rfl (by omega) rfl (by first | decide | simp [cat_rf, Value.category]) (fun h132 W132 => ?_)
    refine pw_sipush (pc2 := 1010) (v := (-1001)) dL_law_1007 rfl (by decide) ?_
    refine pw_icmp_ne (tgt := 1060) (pc2 := 1013) dL_law_1010 (by decide) rfl (fun c1010 => by exact absurd (by decide) c1010) (fun _ => ?_)
    refine pw_iload (pc2 := 1015) dL_law_1013 rfl 1 rfl ?_
    refine pw_if_le (tgt := 1032) (pc2 := 1018) dL_law_1015 (by decide) rfl (fun c1015 => by exact absurd c1015 (q0)) (fun _ => ?_)
    refine pw_aload_n (pc2 := 1019) dL_law_1018 rfl rfl 4 rfl (by first | exact rf_ref _ | exact rf_opt _ | exact rf_nul) ?_
    refine pw_iconst (pc2 := 1020) (v := 0) dL_law_1019 rfl (by decide) ?_
    refine pw_iconst (pc2 := 1021) (v := 0) dL_law_1020 rfl (by decide) ?_
    refine pw_iconst (pc2 := 1022) (v := (-1)) dL_law_1021 rfl (by decide) ?_
    refine pw_iconst (pc2 := 1023) (v := 0) dL_law_1022 rfl (by decide) ?_
    refine PW.widen (kc' := 348 + 3) (ks' := 2088 + 18) (by omega) (by omega) ?_
    refine pw_lookS (kc := 348) (ks := 2088) (pc2 := 1026) (z_dn2 W132 HJ h0) cs_L_186 rfl dL_law_1023 rfl (by omega) rfl (by first | decide | simp [cat_rf, Value.category]) (fun h133 W133 => ?_)
    refine pw_sipush (pc2 := 1029) (v := (-1002)) dL_law_1026 rfl (by decide) ?_
    refine pw_icmp_ne (tgt := 1060) (pc2 := 1032) dL_law_1029 (by decide) rfl (fun c1029 => by exact absurd (by decide) c1029) (fun _ => ?_)
    refine pw_aload_n (pc2 := 1033) dL_law_1032 rfl rfl 4 rfl (by first | exact rf_ref _ | exact rf_opt _ | exact rf_nul) ?_
    refine pw_iload (pc2 := 1035) dL_law_1033 rfl 1 rfl ?_
    refine pw_iconst (pc2 := 1036) (v := 0) dL_law_1035 rfl (by decide) ?_
    refine pw_iconst (pc2 := 1037) (v := 0) dL_law_1036 rfl (by decide) ?_
    refine PW.widen (kc' := 345 + 3) (ks' := 2070 + 18) (by omega) (by omega) ?_
    refine pw_lookS (kc := 345) (ks := 2070) (pc2 := 1040) (x_cho0 W133 (fun z => hx z.1)) cs_L_149 rfl dL_law_1037 rfl (by omega) rfl (by first | decide | simp [cat_rf, Value.category]) (fun h134 W134 => ?_)
    refine pw_sipush (pc2 := 1043) (v := (-1001)) dL_law_1040 rfl (by decide) ?_
    refine pw_icmp_ne (tgt := 1060) (pc2 := 1046) dL_law_1043 (by decide) rfl (fun c1043 => by exact absurd (by decide) c1043) (fun _ => ?_)
    refine pw_aload_n (pc2 := 1047) dL_law_1046 rfl rfl 4 rfl (by first | exact rf_ref _ | exact rf_opt _ | exact rf_nul) ?_
    refine pw_iconst (pc2 := 1048) (v := 0) dL_law_1047 rfl (by decide) ?_
    refine pw_iload (pc2 := 1050) dL_law_1048 rfl 1 rfl ?_
    refine pw_iconst (pc2 := 1051) (v := 1) dL_law_1050 rfl (by decide) ?_
    refine PW.widen (kc' := 342 + 3) (ks' := 2052 + 18) (by omega) (by omega) ?_
    refine pw_lookS (kc := 342) (ks := 2052) (pc2 := 1054) (x_cho1 W134 HJ (fun z => hx z.2)) cs_L_149 rfl dL_law_1051 rfl (by omega) rfl (by first | decide | simp [cat_rf, Value.category]) (fun h135 W135 => ?_)
    refine pw_sipush (pc2 := 1057) (v := (-1001)) dL_law_1054 rfl (by decide) ?_
    refine pw_icmp_eq (tgt := 1062) (pc2 := 1060) dL_law_1057 (by decide) rfl (fun _ => ?_) (fun c1057 => by exact absurd (by decide) c1057)
    refine pw_iconst (pc2 := 1063) (v := 0) dL_law_1062 rfl (by decide) ?_
    refine pw_istore (pc2 := 1065) (L2 := [(9, Value.int 0), (8, Value.int (nI (nts σ))), (7, Value.int (nI (npk σ))), (5, Value.long (sumF σ)), (0, Value.ref sc), (1, Value.ref (A 0 0)), (2, Value.ref (A 60 0)), (3, Value.int (nI (nrl σ)))]) dL_law_1063 rfl (by decide) rfl ?_
    refine pw_iload (pc2 := 1067) dL_law_1065 rfl 0 rfl ?_
    refine pw_bipush (pc2 := 1069) (v := 6) dL_law_1067 rfl (by decide) ?_
    refine pw_icmp_ge (tgt := 1107) (pc2 := 1072) dL_law_1069 (by decide) rfl (fun c1069 => by exact absurd c1069 (by decide)) (fun _ => ?_)
    refine pw_aload_n (pc2 := 1073) dL_law_1072 rfl rfl 5 rfl (by first | exact rf_ref _ | exact rf_opt _ | exact rf_nul) ?_
    refine pw_iload (pc2 := 1075) dL_law_1073 rfl 2 rfl ?_
    refine pw_iload (pc2 := 1077) dL_law_1075 rfl 0 rfl ?_
    refine PW.widen (kc' := 340 + 2) (ks' := 2040 + 12) (by omega) (by omega) ?_
    refine pw_lookS (kc := 340) (ks := 2040) (pc2 := 1080) (z_of0 W135 hx) cs_L_109 rfl dL_law_1077 rfl (by omega) rfl (by first | decide | simp [cat_rf, Value.category]) (fun h136 W136 => ?_)
    refine pw_sipush (pc2 := 1083) (v := (-1001)) dL_law_1080 rfl (by decide) ?_
    refine pw_icmp_ne (tgt := 1099) (pc2 := 1086) dL_law_1083 (by decide) rfl (fun c1083 => by exact absurd (by decide) c1083) (fun _ => ?_)
    refine pw_aload_n (pc2 := 1087) dL_law_1086 rfl rfl 5 rfl (by first | exact rf_ref _ | exact rf_opt _ | exact rf_nul) ?_
    refine pw_iconst (pc2 := 1088) (v := (-1)) dL_law_1087 rfl (by decide) ?_
    refine pw_iload (pc2 := 1090) dL_law_1088 rfl 0 rfl ?_
    refine PW.widen (kc' := 338 + 2) (ks' := 2028 + 12) (by omega) (by omega) ?_
    refine pw_lookS (kc := 338) (ks := 2028) (pc2 := 1093) (z_of0 W136 neg_in) cs_L_109 rfl dL_law_1090 rfl (by omega) rfl (by first | decide | simp [cat_rf, Value.category]) (fun h137 W137 => ?_)
    refine pw_sipush (pc2 := 1096) (v := (-1001)) dL_law_1093 rfl (by decide) ?_
    refine pw_icmp_eq (tgt := 1101) (pc2 := 1099) dL_law_1096 (by decide) rfl (fun _ => ?_) (fun c1096 => by exact absurd (by decide) c1096)
    refine pw_iinc (pc2 := 1104) (v := 1) (L2 := [(9, Value.int 1), (8, Value.int (nI (nts σ))), (7, Value.int (nI (npk σ))), (5, Value.long (sumF σ)), (0, Value.ref sc), (1, Value.ref (A 0 0)), (2, Value.ref (A 60 0)), (3, Value.int (nI (nrl σ)))]) dL_law_1101 rfl 0 rfl (by decide) (by decide) rfl ?_
    refine pw_goto (tgt := 1065) dL_law_1104 (by decide) ?_
    refine pw_iload (pc2 := 1067) dL_law_1065 rfl 0 rfl ?_
    refine pw_bipush (pc2 := 1069) (v := 6) dL_law_1067 rfl (by decide) ?_
    refine pw_icmp_ge (tgt := 1107) (pc2 := 1072) dL_law_1069 (by decide) rfl (fun c1069 => by exact absurd c1069 (by decide)) (fun _ => ?_)
    refine pw_aload_n (pc2 := 1073) dL_law_1072 rfl rfl 5 rfl (by first | exact rf_ref _ | exact rf_opt _ | exact rf_nul) ?_
    refine pw_iload (pc2 := 1075) dL_law_1073 rfl 2 rfl ?_
    refine pw_iload (pc2 := 1077) dL_law_1075 rfl 0 rfl ?_
    refine PW.widen (kc' := 335 + 3) (ks' := 2010 + 18) (by omega) (by omega) ?_
    refine pw_lookS (kc := 335) (ks := 2010) (pc2 := 1080) (z_of1 W137 HJ hx) cs_L_109 rfl dL_law_1077 rfl (by omega) rfl (by first | decide | simp [cat_rf, Value.category]) (fun h138 W138 => ?_)
    refine pw_sipush (pc2 := 1083) (v := (-1001)) dL_law_1080 rfl (by decide) ?_
    refine pw_icmp_ne (tgt := 1099) (pc2 := 1086) dL_law_1083 (by decide) rfl (fun c1083 => by exact absurd (by decide) c1083) (fun _ => ?_)
    refine pw_aload_n (pc2 := 1087) dL_law_1086 rfl rfl 5 rfl (by first | exact rf_ref _ | exact rf_opt _ | exact rf_nul) ?_
    refine pw_iconst (pc2 := 1088) (v := (-1)) dL_law_1087 rfl (by decide) ?_
    refine pw_iload (pc2 := 1090) dL_law_1088 rfl 0 rfl ?_
    refine PW.widen (kc' := 332 + 3) (ks' := 1992 + 18) (by omega) (by omega) ?_
    refine pw_lookS (kc := 332) (ks := 1992) (pc2 := 1093) (z_of1 W138 HJ neg_in) cs_L_109 rfl dL_law_1090 rfl (by omega) rfl (by first | decide | simp [cat_rf, Value.category]) (fun h139 W139 => ?_)
    refine pw_sipush (pc2 := 1096) (v := (-1001)) dL_law_1093 rfl (by decide) ?_
    refine pw_icmp_eq (tgt := 1101) (pc2 := 1099) dL_law_1096 (by decide) rfl (fun _ => ?_) (fun c1096 => by exact absurd (by decide) c1096)
    refine pw_iinc (pc2 := 1104) (v := 2) (L2 := [(9, Value.int 2), (8, Value.int (nI (nts σ))), (7, Value.int (nI (npk σ))), (5, Value.long (sumF σ)), (0, Value.ref sc), (1, Value.ref (A 0 0)), (2, Value.ref (A 60 0)), (3, Value.int (nI (nrl σ)))]) dL_law_1101 rfl 0 rfl (by decide) (by decide) rfl ?_
    refine pw_goto (tgt := 1065) dL_law_1104 (by decide) ?_
    refine pw_iload (pc2 := 1067) dL_law_1065 rfl 0 rfl ?_
    refine pw_bipush (pc2 := 1069) (v := 6) dL_law_1067 rfl (by decide) ?_
    refine pw_icmp_ge (tgt := 1107) (pc2 := 1072) dL_law_1069 (by decide) rfl (fun c1069 => by exact absurd c1069 (by decide)) (fun _ => ?_)
    refine pw_aload_n (pc2 := 1073) dL_law_1072 rfl rfl 5 rfl (by first | exact rf_ref _ | exact rf_opt _ | exact rf_nul) ?_
    refine pw_iload (pc2 := 1075) dL_law_1073 rfl 2 rfl ?_
    refine pw_iload (pc2 := 1077) dL_law_1075 rfl 0 rfl ?_
    refine PW.widen (kc' := 331 + 1) (ks' := 1986 + 6) (by omega) (by omega) ?_
    refine pw_lookS (kc := 331) (ks := 1986) (pc2 := 1080) (x_of2 W139 HJ hx) cs_L_109 rfl dL_law_1077 rfl (by omega) rfl (by first | decide | simp [cat_rf, Value.category]) (fun h140 W140 => ?_)
    refine pw_sipush (pc2 := 1083) (v := (-1001)) dL_law_1080 rfl (by decide) ?_
    refine pw_icmp_ne (tgt := 1099) (pc2 := 1086) dL_law_1083 (by decide) rfl (fun c1083 => by exact absurd (by decide) c1083) (fun _ => ?_)
    refine pw_aload_n (pc2 := 1087) dL_law_1086 rfl rfl 5 rfl (by first | exact rf_ref _ | exact rf_opt _ | exact rf_nul) ?_
    refine pw_iconst (pc2 := 1088) (v := (-1)) dL_law_1087 rfl (by decide) ?_
    refine pw_iload (pc2 := 1090) dL_law_1088 rfl 0 rfl ?_
    refine PW.widen (kc' := 330 + 1) (ks' := 1980 + 6) (by omega) (by omega) ?_
    refine pw_lookS (kc := 330) (ks := 1980) (pc2 := 1093) (x_of2 W140 HJ neg_in) cs_L_109 rfl dL_law_1090 rfl (by omega) rfl (by first | decide | simp [cat_rf, Value.category]) (fun h141 W141 => ?_)
    refine pw_sipush (pc2 := 1096) (v := (-1001)) dL_law_1093 rfl (by decide) ?_
    refine pw_icmp_eq (tgt := 1101) (pc2 := 1099) dL_law_1096 (by decide) rfl (fun _ => ?_) (fun c1096 => by exact absurd (by decide) c1096)
    refine pw_iinc (pc2 := 1104) (v := 3) (L2 := [(9, Value.int 3), (8, Value.int (nI (nts σ))), (7, Value.int (nI (npk σ))), (5, Value.long (sumF σ)), (0, Value.ref sc), (1, Value.ref (A 0 0)), (2, Value.ref (A 60 0)), (3, Value.int (nI (nrl σ)))]) dL_law_1101 rfl 0 rfl (by decide) (by decide) rfl ?_
    refine pw_goto (tgt := 1065) dL_law_1104 (by decide) ?_
    refine pw_iload (pc2 := 1067) dL_law_1065 rfl 0 rfl ?_
    refine pw_bipush (pc2 := 1069) (v := 6) dL_law_1067 rfl (by decide) ?_
    refine pw_icmp_ge (tgt := 1107) (pc2 := 1072) dL_law_1069 (by decide) rfl (fun c1069 => by exact absurd c1069 (by decide)) (fun _ => ?_)
    refine pw_aload_n (pc2 := 1073) dL_law_1072 rfl rfl 5 rfl (by first | exact rf_ref _ | exact rf_opt _ | exact rf_nul) ?_
    refine pw_iload (pc2 := 1075) dL_law_1073 rfl 2 rfl ?_
    refine pw_iload (pc2 := 1077) dL_law_1075 rfl 0 rfl ?_
    refine PW.widen (kc' := 329 + 1) (ks' := 1974 + 6) (by omega) (by omega) ?_
    refine pw_lookS (kc := 329) (ks := 1974) (pc2 := 1080) (x_of3 W141 hx) cs_L_109 rfl dL_law_1077 rfl (by omega) rfl (by first | decide | simp [cat_rf, Value.category]) (fun h142 W142 => ?_)
    refine pw_sipush (pc2 := 1083) (v := (-1001)) dL_law_1080 rfl (by decide) ?_
    refine pw_icmp_ne (tgt := 1099) (pc2 := 1086) dL_law_1083 (by decide) rfl (fun c1083 => by exact absurd (by decide) c1083) (fun _ => ?_)
    refine pw_aload_n (pc2 := 1087) dL_law_1086 rfl rfl 5 rfl (by first | exact rf_ref _ | exact rf_opt _ | exact rf_nul) ?_
    refine pw_iconst (pc2 := 1088) (v := (-1)) dL_law_1087 rfl (by decide) ?_
    refine pw_iload (pc2 := 1090) dL_law_1088 rfl 0 rfl ?_
    refine PW.widen (kc' := 328 + 1) (ks' := 1968 + 6) (by omega) (by omega) ?_
    refine pw_lookS (kc := 328) (ks := 1968) (pc2 := 1093) (x_of3 W142 neg_in) cs_L_109 rfl dL_law_1090 rfl (by omega) rfl (by first | decide | simp [cat_rf, Value.category]) (fun h143 W143 => ?_)
    refine pw_sipush (pc2 := 1096) (v := (-1001)) dL_law_1093 rfl (by decide) ?_
    refine pw_icmp_eq (tgt := 1101) (pc2 := 1099) dL_law_1096 (by decide) rfl (fun _ => ?_) (fun c1096 => by exact absurd (by decide) c1096)
    refine pw_iinc (pc2 := 1104) (v := 4) (L2 := [(9, Value.int 4), (8, Value.int (nI (nts σ))), (7, Value.int (nI (npk σ))), (5, Value.long (sumF σ)), (0, Value.ref sc), (1, Value.ref (A 0 0)), (2, Value.ref (A 60 0)), (3, Value.int (nI (nrl σ)))]) dL_law_1101 rfl 0 rfl (by decide) (by decide) rfl ?_
    refine pw_goto (tgt := 1065) dL_law_1104 (by decide) ?_
    refine pw_iload (pc2 := 1067) dL_law_1065 rfl 0 rfl ?_
    refine pw_bipush (pc2 := 1069) (v := 6) dL_law_1067 rfl (by decide) ?_
    refine pw_icmp_ge (tgt := 1107) (pc2 := 1072) dL_law_1069 (by decide) rfl (fun c1069 => by exact absurd c1069 (by decide)) (fun _ => ?_)
    refine pw_aload_n (pc2 := 1073) dL_law_1072 rfl rfl 5 rfl (by first | exact rf_ref _ | exact rf_opt _ | exact rf_nul) ?_
    refine pw_iload (pc2 := 1075) dL_law_1073 rfl 2 rfl ?_
    refine pw_iload (pc2 := 1077) dL_law_1075 rfl 0 rfl ?_
    refine PW.widen (kc' := 327 + 1) (ks' := 1962 + 6) (by omega) (by omega) ?_
    refine pw_lookS (kc := 327) (ks := 1962) (pc2 := 1080) (x_of4 W143 hx) cs_L_109 rfl dL_law_1077 rfl (by omega) rfl (by first | decide | simp [cat_rf, Value.category]) (fun h144 W144 => ?_)
    refine pw_sipush (pc2 := 1083) (v := (-1001)) dL_law_1080 rfl (by decide) ?_
    refine pw_icmp_ne (tgt := 1099) (pc2 := 1086) dL_law_1083 (by decide) rfl (fun c1083 => by exact absurd (by decide) c1083) (fun _ => ?_)
    refine pw_aload_n (pc2 := 1087) dL_law_1086 rfl rfl 5 rfl (by first | exact rf_ref _ | exact rf_opt _ | exact rf_nul) ?_
    refine pw_iconst (pc2 := 1088) (v := (-1)) dL_law_1087 rfl (by decide) ?_
    refine pw_iload (pc2 := 1090) dL_law_1088 rfl 0 rfl ?_
    refine PW.widen (kc' := 326 + 1) (ks' := 1956 + 6) (by omega) (by omega) ?_
    refine pw_lookS (kc := 326) (ks := 1956) (pc2 := 1093) (x_of4 W144 neg_in) cs_L_109 rfl dL_law_1090 rfl (by omega) rfl (by first | decide | simp [cat_rf, Value.category]) (fun h145 W145 => ?_)
    refine pw_sipush (pc2 := 1096) (v := (-1001)) dL_law_1093 rfl (by decide) ?_
    refine pw_icmp_eq (tgt := 1101) (pc2 := 1099) dL_law_1096 (by decide) rfl (fun _ => ?_) (fun c1096 => by exact absurd (by decide) c1096)
    refine pw_iinc (pc2 := 1104) (v := 5) (L2 := [(9, Value.int 5), (8, Value.int (nI (nts σ))), (7, Value.int (nI (npk σ))), (5, Value.long (sumF σ)), (0, Value.ref sc), (1, Value.ref (A 0 0)), (2, Value.ref (A 60 0)), (3, Value.int (nI (nrl σ)))]) dL_law_1101 rfl 0 rfl (by decide) (by decide) rfl ?_
    refine pw_goto (tgt := 1065) dL_law_1104 (by decide) ?_
    refine pw_iload (pc2 := 1067) dL_law_1065 rfl 0 rfl ?_
    refine pw_bipush (pc2 := 1069) (v := 6) dL_law_1067 rfl (by decide) ?_
    refine pw_icmp_ge (tgt := 1107) (pc2 := 1072) dL_law_1069 (by decide) rfl (fun c1069 => by exact absurd c1069 (by decide)) (fun _ => ?_)
    refine pw_aload_n (pc2 := 1073) dL_law_1072 rfl rfl 5 rfl (by first | exact rf_ref _ | exact rf_opt _ | exact rf_nul) ?_
    refine pw_iload (pc2 := 1075) dL_law_1073 rfl 2 rfl ?_
    refine pw_iload (pc2 := 1077) dL_law_1075 rfl 0 rfl ?_
    refine PW.widen (kc' := 307 + 9) (ks' := 1842 + 112) (by omega) (by omega) ?_
    refine pw_lookS (kc := 307) (ks := 1842) (pc2 := 1080) (z_publ W145 hx) cs_L_109 rfl dL_law_1077 rfl (by omega) rfl (by first | decide | simp [cat_rf, Value.category]) (fun h146 W146 => ?_)
    refine pw_sipush (pc2 := 1083) (v := (-1001)) dL_law_1080 rfl (by decide) ?_
    refine pw_icmp_ne (tgt := 1099) (pc2 := 1086) dL_law_1083 (by decide) rfl (fun c1083 => by exact absurd (by decide) c1083) (fun _ => ?_)
    refine pw_aload_n (pc2 := 1087) dL_law_1086 rfl rfl 5 rfl (by first | exact rf_ref _ | exact rf_opt _ | exact rf_nul) ?_
    refine pw_iconst (pc2 := 1088) (v := (-1)) dL_law_1087 rfl (by decide) ?_
    refine pw_iload (pc2 := 1090) dL_law_1088 rfl 0 rfl ?_
    refine PW.widen (kc' := 288 + 9) (ks' := 1728 + 112) (by omega) (by omega) ?_
    refine pw_lookS (kc := 288) (ks := 1728) (pc2 := 1093) (z_publ W146 neg_in) cs_L_109 rfl dL_law_1090 rfl (by omega) rfl (by first | decide | simp [cat_rf, Value.category]) (fun h147 W147 => ?_)
    refine pw_sipush (pc2 := 1096) (v := (-1001)) dL_law_1093 rfl (by decide) ?_
    refine pw_icmp_eq (tgt := 1101) (pc2 := 1099) dL_law_1096 (by decide) rfl (fun _ => ?_) (fun c1096 => by exact absurd (by decide) c1096)
    refine pw_iinc (pc2 := 1104) (v := 6) (L2 := [(9, Value.int 6), (8, Value.int (nI (nts σ))), (7, Value.int (nI (npk σ))), (5, Value.long (sumF σ)), (0, Value.ref sc), (1, Value.ref (A 0 0)), (2, Value.ref (A 60 0)), (3, Value.int (nI (nrl σ)))]) dL_law_1101 rfl 0 rfl (by decide) (by decide) rfl ?_
    refine pw_goto (tgt := 1065) dL_law_1104 (by decide) ?_
    refine pw_iload (pc2 := 1067) dL_law_1065 rfl 0 rfl ?_
    refine pw_bipush (pc2 := 1069) (v := 6) dL_law_1067 rfl (by decide) ?_
    refine pw_icmp_ge (tgt := 1107) (pc2 := 1072) dL_law_1069 (by decide) rfl (fun _ => ?_) (fun c1069 => by exact absurd (by decide) c1069)
    refine pw_aload_n (pc2 := 1108) dL_law_1107 rfl rfl 5 rfl (by first | exact rf_ref _ | exact rf_opt _ | exact rf_nul) ?_
    refine pw_iload (pc2 := 1110) dL_law_1108 rfl 2 rfl ?_
    refine pw_iconst (pc2 := 1111) (v := 0) dL_law_1110 rfl (by decide) ?_
    refine PW.widen (kc' := 278 + 4) (ks' := 1668 + 59) (by omega) (by omega) ?_
    refine pw_lookS (kc := 278) (ks := 1668) (pc2 := 1114) (z_at1 W147 hx) cs_L_189 rfl dL_law_1111 rfl (by omega) rfl (by first | decide | simp [cat_rf, Value.category]) (fun h148 W148 => ?_)
    refine pw_sipush (pc2 := 1117) (v := (-1001)) dL_law_1114 rfl (by decide) ?_
    refine pw_icmp_ne (tgt := 1294) (pc2 := 1120) dL_law_1117 (by decide) rfl (fun c1117 => by exact absurd (by decide) c1117) (fun _ => ?_)
    refine pw_iload (pc2 := 1122) dL_law_1120 rfl 2 rfl ?_
    refine pw_if_le (tgt := 1137) (pc2 := 1125) dL_law_1122 (by decide) rfl (fun c1122 => by exact absurd c1122 (q0)) (fun _ => ?_)
    refine pw_aload_n (pc2 := 1126) dL_law_1125 rfl rfl 5 rfl (by first | exact rf_ref _ | exact rf_opt _ | exact rf_nul) ?_
    refine pw_iconst (pc2 := 1127) (v := 0) dL_law_1126 rfl (by decide) ?_
    refine pw_iconst (pc2 := 1128) (v := 0) dL_law_1127 rfl (by decide) ?_
    refine PW.widen (kc' := 268 + 4) (ks' := 1608 + 59) (by omega) (by omega) ?_
    refine pw_lookS (kc := 268) (ks := 1608) (pc2 := 1131) (z_at2 W148 i0 (fun z => absurd z.1 (by decide))) cs_L_189 rfl dL_law_1128 rfl (by omega) rfl (by first | decide | simp [cat_rf, Value.category]) (fun h149 W149 => ?_)
    refine pw_sipush (pc2 := 1134) (v := (-1002)) dL_law_1131 rfl (by decide) ?_
    refine pw_icmp_ne (tgt := 1294) (pc2 := 1137) dL_law_1134 (by decide) rfl (fun c1134 => by exact absurd (by decide) c1134) (fun _ => ?_)
    refine pw_iload (pc2 := 1139) dL_law_1137 rfl 2 rfl ?_
    refine pw_if_le (tgt := 1155) (pc2 := 1142) dL_law_1139 (by decide) rfl (fun c1139 => by exact absurd c1139 (q0)) (fun _ => ?_)
    refine pw_aload_n (pc2 := 1143) dL_law_1142 rfl rfl 5 rfl (by first | exact rf_ref _ | exact rf_opt _ | exact rf_nul) ?_
    refine pw_iconst (pc2 := 1144) (v := 0) dL_law_1143 rfl (by decide) ?_
    refine pw_bipush (pc2 := 1146) (v := 61) dL_law_1144 rfl (by decide) ?_
    refine PW.widen (kc' := 258 + 4) (ks' := 1548 + 59) (by omega) (by omega) ?_
    refine pw_lookS (kc := 258) (ks := 1548) (pc2 := 1149) (z_at2 W149 i0 (fun z => absurd z.2 (by decide))) cs_L_189 rfl dL_law_1146 rfl (by omega) rfl (by first | decide | simp [cat_rf, Value.category]) (fun h150 W150 => ?_)
    refine pw_sipush (pc2 := 1152) (v := (-1002)) dL_law_1149 rfl (by decide) ?_
    refine pw_icmp_ne (tgt := 1294) (pc2 := 1155) dL_law_1152 (by decide) rfl (fun c1152 => by exact absurd (by decide) c1152) (fun _ => ?_)
    refine pw_aload_n (pc2 := 1156) dL_law_1155 rfl rfl 5 rfl (by first | exact rf_ref _ | exact rf_opt _ | exact rf_nul) ?_
    refine pw_iload (pc2 := 1158) dL_law_1156 rfl 1 rfl ?_
    refine pw_iconst (pc2 := 1159) (v := 0) dL_law_1158 rfl (by decide) ?_
    refine PW.widen (kc' := 257 + 1) (ks' := 1542 + 6) (by omega) (by omega) ?_
    refine pw_lookS (kc := 257) (ks := 1542) (pc2 := 1162) (x_ts0 W150 HJ ht) cs_L_115 rfl dL_law_1159 rfl (by omega) rfl (by first | decide | simp [cat_rf, Value.category]) (fun h151 W151 => ?_)
    refine pw_sipush (pc2 := 1165) (v := (-1001)) dL_law_1162 rfl (by decide) ?_
    refine pw_icmp_ne (tgt := 1294) (pc2 := 1168) dL_law_1165 (by decide) rfl (fun c1165 => by exact absurd (by decide) c1165) (fun _ => ?_)
    refine pw_aload_n (pc2 := 1169) dL_law_1168 rfl rfl 5 rfl (by first | exact rf_ref _ | exact rf_opt _ | exact rf_nul) ?_
    refine pw_iconst (pc2 := 1170) (v := (-1)) dL_law_1169 rfl (by decide) ?_
    refine pw_iconst (pc2 := 1171) (v := 1) dL_law_1170 rfl (by decide) ?_
    refine PW.widen (kc' := 256 + 1) (ks' := 1536 + 6) (by omega) (by omega) ?_
    refine pw_lookS (kc := 256) (ks := 1536) (pc2 := 1174) (z_ts1 W151 neg_in) cs_L_115 rfl dL_law_1171 rfl (by omega) rfl (by first | decide | simp [cat_rf, Value.category]) (fun h152 W152 => ?_)
    refine pw_sipush (pc2 := 1177) (v := (-1001)) dL_law_1174 rfl (by decide) ?_
    refine pw_icmp_ne (tgt := 1294) (pc2 := 1180) dL_law_1177 (by decide) rfl (fun c1177 => by exact absurd (by decide) c1177) (fun _ => ?_)
    by_cases hn : nts σ = 0
    · skip
      refine pw_aload_n (pc2 := 1181) dL_law_1180 rfl rfl 5 rfl (by first | exact rf_ref _ | exact rf_opt _ | exact rf_nul) ?_
      refine PW.widen (kc' := 255 + 1) (ks' := 1530 + 6) (by omega) (by omega) ?_
      refine pw_lookS (kc := 255) (ks := 1530) (pc2 := 1184) (k_flk W152 HJ) cs_L_127 rfl dL_law_1181 rfl (by omega) rfl (by first | decide | simp [cat_rf, Value.category]) (fun h153 W153 => ?_)
      refine pw_sipush (pc2 := 1187) (v := (-1001)) dL_law_1184 rfl (by decide) ?_
      refine pw_icmp_ne (tgt := 1194) (pc2 := 1190) dL_law_1187 (by decide) rfl (fun c1187 => by exact absurd (fk_0 hn) c1187) (fun _ => ?_)
      refine pw_iconst (pc2 := 1191) (v := 1) dL_law_1190 rfl (by decide) ?_
      refine pw_goto (tgt := 1195) dL_law_1191 (by decide) ?_
      refine pw_iload (pc2 := 1197) dL_law_1195 rfl 1 rfl ?_
      refine pw_if_ne (tgt := 1204) (pc2 := 1200) dL_law_1197 (by decide) rfl (fun c1197 => by exact absurd (by rw [hn]; rfl) c1197) (fun _ => ?_)
      refine pw_iconst (pc2 := 1201) (v := 1) dL_law_1200 rfl (by decide) ?_
      refine pw_goto (tgt := 1205) dL_law_1201 (by decide) ?_
      refine pw_icmp_ne (tgt := 1294) (pc2 := 1208) dL_law_1205 (by decide) rfl (fun c1205 => by exact absurd (by decide) c1205) (fun _ => ?_)
      refine pw_aload_n (pc2 := 1209) dL_law_1208 rfl rfl 5 rfl (by first | exact rf_ref _ | exact rf_opt _ | exact rf_nul) ?_
      refine pw_bipush (pc2 := 1211) (v := 109) dL_law_1209 rfl (by decide) ?_
      refine pw_iconst (pc2 := 1212) (v := 0) dL_law_1211 rfl (by decide) ?_
      refine pw_iconst (pc2 := 1213) (v := 0) dL_law_1212 rfl (by decide) ?_
      refine PW.widen (kc' := 254 + 1) (ks' := 1524 + 6) (by omega) (by omega) ?_
      refine pw_lookS (kc := 254) (ks := 1524) (pc2 := 1216) (z_mm W153 (fun z => absurd z.1 (by decide))) cs_L_141 rfl dL_law_1213 rfl (by omega) rfl (by first | decide | simp [cat_rf, Value.category]) (fun h154 W154 => ?_)
      refine pw_sipush (pc2 := 1219) (v := (-1001)) dL_law_1216 rfl (by decide) ?_
      refine pw_icmp_ne (tgt := 1294) (pc2 := 1222) dL_law_1219 (by decide) rfl (fun c1219 => by exact absurd (by decide) c1219) (fun _ => ?_)
      refine pw_aload_n (pc2 := 1223) dL_law_1222 rfl rfl 5 rfl (by first | exact rf_ref _ | exact rf_opt _ | exact rf_nul) ?_
      refine pw_bipush (pc2 := 1225) (v := 109) dL_law_1223 rfl (by decide) ?_
      refine pw_iconst (pc2 := 1226) (v := 5) dL_law_1225 rfl (by decide) ?_
      refine pw_iconst (pc2 := 1227) (v := 0) dL_law_1226 rfl (by decide) ?_
      refine PW.widen (kc' := 253 + 1) (ks' := 1518 + 6) (by omega) (by omega) ?_
      refine pw_lookS (kc := 253) (ks := 1518) (pc2 := 1230) (z_mm W154 (fun z => absurd z.2 (by decide))) cs_L_141 rfl dL_law_1227 rfl (by omega) rfl (by first | decide | simp [cat_rf, Value.category]) (fun h155 W155 => ?_)
      refine pw_sipush (pc2 := 1233) (v := (-1001)) dL_law_1230 rfl (by decide) ?_
      refine pw_icmp_ne (tgt := 1294) (pc2 := 1236) dL_law_1233 (by decide) rfl (fun c1233 => by exact absurd (by decide) c1233) (fun _ => ?_)
      refine pw_aload_n (pc2 := 1237) dL_law_1236 rfl rfl 5 rfl (by first | exact rf_ref _ | exact rf_opt _ | exact rf_nul) ?_
      refine pw_bipush (pc2 := 1239) (v := 98) dL_law_1237 rfl (by decide) ?_
      refine pw_iconst (pc2 := 1240) (v := 3) dL_law_1239 rfl (by decide) ?_
      refine pw_iconst (pc2 := 1241) (v := 0) dL_law_1240 rfl (by decide) ?_
      refine PW.widen (kc' := 252 + 1) (ks' := 1512 + 6) (by omega) (by omega) ?_
      refine pw_lookS (kc := 252) (ks := 1512) (pc2 := 1244) (x_mon_b W155 (fun z => absurd z.2 (by decide))) cs_L_141 rfl dL_law_1241 rfl (by omega) rfl (by first | decide | simp [cat_rf, Value.category]) (fun h156 W156 => ?_)
      refine pw_sipush (pc2 := 1247) (v := (-1001)) dL_law_1244 rfl (by decide) ?_
      refine pw_icmp_ne (tgt := 1294) (pc2 := 1250) dL_law_1247 (by decide) rfl (fun c1247 => by exact absurd (by decide) c1247) (fun _ => ?_)
      refine pw_aload_n (pc2 := 1251) dL_law_1250 rfl rfl 5 rfl (by first | exact rf_ref _ | exact rf_opt _ | exact rf_nul) ?_
      refine pw_bipush (pc2 := 1253) (v := 102) dL_law_1251 rfl (by decide) ?_
      refine pw_iconst (pc2 := 1254) (v := 3) dL_law_1253 rfl (by decide) ?_
      refine pw_iconst (pc2 := 1255) (v := 1) dL_law_1254 rfl (by decide) ?_
      refine PW.widen (kc' := 250 + 2) (ks' := 1500 + 12) (by omega) (by omega) ?_
      refine pw_lookS (kc := 250) (ks := 1500) (pc2 := 1258) (z_mf W156 (fun z => absurd z.1.2 (by decide))) cs_L_141 rfl dL_law_1255 rfl (by omega) rfl (by first | decide | simp [cat_rf, Value.category]) (fun h157 W157 => ?_)
      refine pw_sipush (pc2 := 1261) (v := (-1001)) dL_law_1258 rfl (by decide) ?_
      refine pw_icmp_ne (tgt := 1294) (pc2 := 1264) dL_law_1261 (by decide) rfl (fun c1261 => by exact absurd (by decide) c1261) (fun _ => ?_)
      refine pw_aload_n (pc2 := 1265) dL_law_1264 rfl rfl 5 rfl (by first | exact rf_ref _ | exact rf_opt _ | exact rf_nul) ?_
      refine pw_bipush (pc2 := 1267) (v := 102) dL_law_1265 rfl (by decide) ?_
      refine pw_iconst (pc2 := 1268) (v := 0) dL_law_1267 rfl (by decide) ?_
      refine pw_iconst (pc2 := 1269) (v := 0) dL_law_1268 rfl (by decide) ?_
      refine PW.widen (kc' := 248 + 2) (ks' := 1488 + 12) (by omega) (by omega) ?_
      refine pw_lookS (kc := 248) (ks := 1488) (pc2 := 1272) (z_mf W157 (fun z => absurd z.2.1 (by decide))) cs_L_141 rfl dL_law_1269 rfl (by omega) rfl (by first | decide | simp [cat_rf, Value.category]) (fun h158 W158 => ?_)
      refine pw_sipush (pc2 := 1275) (v := (-1001)) dL_law_1272 rfl (by decide) ?_
      refine pw_icmp_ne (tgt := 1294) (pc2 := 1278) dL_law_1275 (by decide) rfl (fun c1275 => by exact absurd (by decide) c1275) (fun _ => ?_)
      refine pw_aload_n (pc2 := 1279) dL_law_1278 rfl rfl 5 rfl (by first | exact rf_ref _ | exact rf_opt _ | exact rf_nul) ?_
      refine pw_bipush (pc2 := 1281) (v := 102) dL_law_1279 rfl (by decide) ?_
      refine pw_iconst (pc2 := 1282) (v := 0) dL_law_1281 rfl (by decide) ?_
      refine pw_sipush (pc2 := 1285) (v := 10000) dL_law_1282 rfl (by decide) ?_
      refine PW.widen (kc' := 246 + 2) (ks' := 1476 + 12) (by omega) (by omega) ?_
      refine pw_lookS (kc := 246) (ks := 1476) (pc2 := 1288) (z_mf W158 (fun z => absurd z.2.2 (by decide))) cs_L_141 rfl dL_law_1285 rfl (by omega) rfl (by first | decide | simp [cat_rf, Value.category]) (fun h159 W159 => ?_)
      refine pw_sipush (pc2 := 1291) (v := (-1001)) dL_law_1288 rfl (by decide) ?_
      refine pw_icmp_eq (tgt := 1296) (pc2 := 1294) dL_law_1291 (by decide) rfl (fun _ => ?_) (fun c1291 => by exact absurd (by decide) c1291)
      refine pw_iconst (pc2 := 1297) (v := 0) dL_law_1296 rfl (by decide) ?_
      refine pw_istore (pc2 := 1299) (L2 := [(9, Value.int 0), (8, Value.int (nI (nts σ))), (7, Value.int (nI (npk σ))), (5, Value.long (sumF σ)), (0, Value.ref sc), (1, Value.ref (A 0 0)), (2, Value.ref (A 60 0)), (3, Value.int (nI (nrl σ)))]) dL_law_1297 rfl (by decide) rfl ?_
      refine pw_iload (pc2 := 1301) dL_law_1299 rfl 0 rfl ?_
      refine pw_iconst (pc2 := 1302) (v := 3) dL_law_1301 rfl (by decide) ?_
      refine pw_icmp_ge (tgt := 1349) (pc2 := 1305) dL_law_1302 (by decide) rfl (fun c1302 => by exact absurd c1302 (by decide)) (fun _ => ?_)
      refine pw_aload_n (pc2 := 1306) dL_law_1305 rfl rfl 5 rfl (by first | exact rf_ref _ | exact rf_opt _ | exact rf_nul) ?_
      refine pw_iload (pc2 := 1308) dL_law_1306 rfl 2 rfl ?_
      refine pw_bipush (pc2 := 1310) (v := 100) dL_law_1308 rfl (by decide) ?_
      refine pw_iload (pc2 := 1312) dL_law_1310 rfl 0 rfl ?_
      refine PW.widen (kc' := 243 + 3) (ks' := 1458 + 18) (by omega) (by omega) ?_
      refine pw_lookS (kc := 243) (ks := 1458) (pc2 := 1315) (z_rl0 W159 hx) cs_L_152 rfl dL_law_1312 rfl (by omega) rfl (by first | decide | simp [cat_rf, Value.category]) (fun h160 W160 => ?_)
      refine pw_sipush (pc2 := 1318) (v := (-1001)) dL_law_1315 rfl (by decide) ?_
      refine pw_icmp_ne (tgt := 1341) (pc2 := 1321) dL_law_1318 (by decide) rfl (fun c1318 => by exact absurd (by decide) c1318) (fun _ => ?_)
      refine pw_iload (pc2 := 1323) dL_law_1321 rfl 2 rfl ?_
      refine pw_if_le (tgt := 1343) (pc2 := 1326) dL_law_1323 (by decide) rfl (fun c1323 => by exact absurd c1323 (q0)) (fun _ => ?_)
      refine pw_aload_n (pc2 := 1327) dL_law_1326 rfl rfl 5 rfl (by first | exact rf_ref _ | exact rf_opt _ | exact rf_nul) ?_
      refine pw_iconst (pc2 := 1328) (v := 0) dL_law_1327 rfl (by decide) ?_
      refine pw_bipush (pc2 := 1330) (v := 99) dL_law_1328 rfl (by decide) ?_
      refine pw_iload (pc2 := 1332) dL_law_1330 rfl 0 rfl ?_
      refine PW.widen (kc' := 240 + 3) (ks' := 1440 + 18) (by omega) (by omega) ?_
      refine pw_lookS (kc := 240) (ks := 1440) (pc2 := 1335) (y_rl0 W160 HJ h0) cs_L_152 rfl dL_law_1332 rfl (by omega) rfl (by first | decide | simp [cat_rf, Value.category]) (fun h161 W161 => ?_)
      refine pw_sipush (pc2 := 1338) (v := (-1002)) dL_law_1335 rfl (by decide) ?_
      refine pw_icmp_eq (tgt := 1343) (pc2 := 1341) dL_law_1338 (by decide) rfl (fun _ => ?_) (fun c1338 => by exact absurd (by decide) c1338)
      refine pw_iinc (pc2 := 1346) (v := 1) (L2 := [(9, Value.int 1), (8, Value.int (nI (nts σ))), (7, Value.int (nI (npk σ))), (5, Value.long (sumF σ)), (0, Value.ref sc), (1, Value.ref (A 0 0)), (2, Value.ref (A 60 0)), (3, Value.int (nI (nrl σ)))]) dL_law_1343 rfl 0 rfl (by decide) (by decide) rfl ?_
      refine pw_goto (tgt := 1299) dL_law_1346 (by decide) ?_
      refine pw_iload (pc2 := 1301) dL_law_1299 rfl 0 rfl ?_
      refine pw_iconst (pc2 := 1302) (v := 3) dL_law_1301 rfl (by decide) ?_
      refine pw_icmp_ge (tgt := 1349) (pc2 := 1305) dL_law_1302 (by decide) rfl (fun c1302 => by exact absurd c1302 (by decide)) (fun _ => ?_)
      refine pw_aload_n (pc2 := 1306) dL_law_1305 rfl rfl 5 rfl (by first | exact rf_ref _ | exact rf_opt _ | exact rf_nul) ?_
      refine pw_iload (pc2 := 1308) dL_law_1306 rfl 2 rfl ?_
      refine pw_bipush (pc2 := 1310) (v := 100) dL_law_1308 rfl (by decide) ?_
      refine pw_iload (pc2 := 1312) dL_law_1310 rfl 0 rfl ?_
      refine PW.widen (kc' := 238 + 2) (ks' := 1428 + 12) (by omega) (by omega) ?_
      refine pw_lookS (kc := 238) (ks := 1428) (pc2 := 1315) (z_rl1 W161 hx) cs_L_152 rfl dL_law_1312 rfl (by omega) rfl (by first | decide | simp [cat_rf, Value.category]) (fun h162 W162 => ?_)
      refine pw_sipush (pc2 := 1318) (v := (-1001)) dL_law_1315 rfl (by decide) ?_
      refine pw_icmp_ne (tgt := 1341) (pc2 := 1321) dL_law_1318 (by decide) rfl (fun c1318 => by exact absurd (by decide) c1318) (fun _ => ?_)
      refine pw_iload (pc2 := 1323) dL_law_1321 rfl 2 rfl ?_
      refine pw_if_le (tgt := 1343) (pc2 := 1326) dL_law_1323 (by decide) rfl (fun c1323 => by exact absurd c1323 (q0)) (fun _ => ?_)
      refine pw_aload_n (pc2 := 1327) dL_law_1326 rfl rfl 5 rfl (by first | exact rf_ref _ | exact rf_opt _ | exact rf_nul) ?_
      refine pw_iconst (pc2 := 1328) (v := 0) dL_law_1327 rfl (by decide) ?_
      refine pw_bipush (pc2 := 1330) (v := 99) dL_law_1328 rfl (by decide) ?_
      refine pw_iload (pc2 := 1332) dL_law_1330 rfl 0 rfl ?_
      refine PW.widen (kc' := 236 + 2) (ks' := 1416 + 12) (by omega) (by omega) ?_
      refine pw_lookS (kc := 236) (ks := 1416) (pc2 := 1335) (y_rl1 W162 HJ h0) cs_L_152 rfl dL_law_1332 rfl (by omega) rfl (by first | decide | simp [cat_rf, Value.category]) (fun h163 W163 => ?_)
      refine pw_sipush (pc2 := 1338) (v := (-1002)) dL_law_1335 rfl (by decide) ?_
      refine pw_icmp_eq (tgt := 1343) (pc2 := 1341) dL_law_1338 (by decide) rfl (fun _ => ?_) (fun c1338 => by exact absurd (by decide) c1338)
      refine pw_iinc (pc2 := 1346) (v := 2) (L2 := [(9, Value.int 2), (8, Value.int (nI (nts σ))), (7, Value.int (nI (npk σ))), (5, Value.long (sumF σ)), (0, Value.ref sc), (1, Value.ref (A 0 0)), (2, Value.ref (A 60 0)), (3, Value.int (nI (nrl σ)))]) dL_law_1343 rfl 0 rfl (by decide) (by decide) rfl ?_
      refine pw_goto (tgt := 1299) dL_law_1346 (by decide) ?_
      refine pw_iload (pc2 := 1301) dL_law_1299 rfl 0 rfl ?_
      refine pw_iconst (pc2 := 1302) (v := 3) dL_law_1301 rfl (by decide) ?_
      refine pw_icmp_ge (tgt := 1349) (pc2 := 1305) dL_law_1302 (by decide) rfl (fun c1302 => by exact absurd c1302 (by decide)) (fun _ => ?_)
      refine pw_aload_n (pc2 := 1306) dL_law_1305 rfl rfl 5 rfl (by first | exact rf_ref _ | exact rf_opt _ | exact rf_nul) ?_
      refine pw_iload (pc2 := 1308) dL_law_1306 rfl 2 rfl ?_
      refine pw_bipush (pc2 := 1310) (v := 100) dL_law_1308 rfl (by decide) ?_
      refine pw_iload (pc2 := 1312) dL_law_1310 rfl 0 rfl ?_
      refine PW.widen (kc' := 232 + 4) (ks' := 1392 + 24) (by omega) (by omega) ?_
      refine pw_lookS (kc := 232) (ks := 1392) (pc2 := 1315) (z_rl2 W163 hx) cs_L_152 rfl dL_law_1312 rfl (by omega) rfl (by first | decide | simp [cat_rf, Value.category]) (fun h164 W164 => ?_)
      refine pw_sipush (pc2 := 1318) (v := (-1001)) dL_law_1315 rfl (by decide) ?_
      refine pw_icmp_ne (tgt := 1341) (pc2 := 1321) dL_law_1318 (by decide) rfl (fun c1318 => by exact absurd (by decide) c1318) (fun _ => ?_)
      refine pw_iload (pc2 := 1323) dL_law_1321 rfl 2 rfl ?_
      refine pw_if_le (tgt := 1343) (pc2 := 1326) dL_law_1323 (by decide) rfl (fun c1323 => by exact absurd c1323 (q0)) (fun _ => ?_)
      refine pw_aload_n (pc2 := 1327) dL_law_1326 rfl rfl 5 rfl (by first | exact rf_ref _ | exact rf_opt _ | exact rf_nul) ?_
      refine pw_iconst (pc2 := 1328) (v := 0) dL_law_1327 rfl (by decide) ?_
      refine pw_bipush (pc2 := 1330) (v := 99) dL_law_1328 rfl (by decide) ?_
      refine pw_iload (pc2 := 1332) dL_law_1330 rfl 0 rfl ?_
      refine PW.widen (kc' := 228 + 4) (ks' := 1368 + 24) (by omega) (by omega) ?_
      refine pw_lookS (kc := 228) (ks := 1368) (pc2 := 1335) (y_rl2 W164 HJ h0) cs_L_152 rfl dL_law_1332 rfl (by omega) rfl (by first | decide | simp [cat_rf, Value.category]) (fun h165 W165 => ?_)
      refine pw_sipush (pc2 := 1338) (v := (-1002)) dL_law_1335 rfl (by decide) ?_
      refine pw_icmp_eq (tgt := 1343) (pc2 := 1341) dL_law_1338 (by decide) rfl (fun _ => ?_) (fun c1338 => by exact absurd (by decide) c1338)
      refine pw_iinc (pc2 := 1346) (v := 3) (L2 := [(9, Value.int 3), (8, Value.int (nI (nts σ))), (7, Value.int (nI (npk σ))), (5, Value.long (sumF σ)), (0, Value.ref sc), (1, Value.ref (A 0 0)), (2, Value.ref (A 60 0)), (3, Value.int (nI (nrl σ)))]) dL_law_1343 rfl 0 rfl (by decide) (by decide) rfl ?_
      refine pw_goto (tgt := 1299) dL_law_1346 (by decide) ?_
      refine pw_iload (pc2 := 1301) dL_law_1299 rfl 0 rfl ?_
      refine pw_iconst (pc2 := 1302) (v := 3) dL_law_1301 rfl (by decide) ?_
      refine pw_icmp_ge (tgt := 1349) (pc2 := 1305) dL_law_1302 (by decide) rfl (fun _ => ?_) (fun c1302 => by exact absurd (by decide) c1302)
      refine pw_aload_n (pc2 := 1350) dL_law_1349 rfl rfl 5 rfl (by first | exact rf_ref _ | exact rf_opt _ | exact rf_nul) ?_
      refine pw_iload (pc2 := 1352) dL_law_1350 rfl 2 rfl ?_
      refine pw_bipush (pc2 := 1354) (v := 100) dL_law_1352 rfl (by decide) ?_
      refine pw_bipush (pc2 := 1356) (v := 10) dL_law_1354 rfl (by decide) ?_
      refine PW.widen (kc' := 225 + 3) (ks' := 1350 + 18) (by omega) (by omega) ?_
      refine pw_lookS (kc := 225) (ks := 1350) (pc2 := 1359) (z_rlL W165 hx) cs_L_152 rfl dL_law_1356 rfl (by omega) rfl (by first | decide | simp [cat_rf, Value.category]) (fun h166 W166 => ?_)
      refine pw_sipush (pc2 := 1362) (v := (-1001)) dL_law_1359 rfl (by decide) ?_
      refine pw_icmp_ne (tgt := 1399) (pc2 := 1365) dL_law_1362 (by decide) rfl (fun c1362 => by exact absurd (by decide) c1362) (fun _ => ?_)
      refine pw_iload (pc2 := 1367) dL_law_1365 rfl 2 rfl ?_
      refine pw_if_eq (tgt := 1385) (pc2 := 1370) dL_law_1367 (by decide) rfl (fun c1367 => by exact absurd c1367 (qz)) (fun _ => ?_)
      refine pw_aload_n (pc2 := 1371) dL_law_1370 rfl rfl 5 rfl (by first | exact rf_ref _ | exact rf_opt _ | exact rf_nul) ?_
      refine pw_iconst (pc2 := 1372) (v := 0) dL_law_1371 rfl (by decide) ?_
      refine pw_bipush (pc2 := 1374) (v := 99) dL_law_1372 rfl (by decide) ?_
      refine pw_bipush (pc2 := 1376) (v := 10) dL_law_1374 rfl (by decide) ?_
      refine PW.widen (kc' := 222 + 3) (ks' := 1332 + 18) (by omega) (by omega) ?_
      refine pw_lookS (kc := 222) (ks := 1332) (pc2 := 1379) (y_rlL W166 HJ h0) cs_L_152 rfl dL_law_1376 rfl (by omega) rfl (by first | decide | simp [cat_rf, Value.category]) (fun h167 W167 => ?_)
      refine pw_sipush (pc2 := 1382) (v := (-1002)) dL_law_1379 rfl (by decide) ?_
      refine pw_icmp_ne (tgt := 1399) (pc2 := 1385) dL_law_1382 (by decide) rfl (fun c1382 => by exact absurd (by decide) c1382) (fun _ => ?_)
      refine pw_aload_n (pc2 := 1386) dL_law_1385 rfl rfl 5 rfl (by first | exact rf_ref _ | exact rf_opt _ | exact rf_nul) ?_
      refine PW.widen (kc' := 92 + 130) (ks' := 552 + 780) (by omega) (by omega) ?_
      refine pw_lookS (kc := 92) (ks := 552) (pc2 := 1389) (c_sum G _ W167 HJ) cs_L_175 rfl dL_law_1386 rfl (by omega) rfl (by first | decide | simp [cat_rf, Value.category]) (fun h168 W168 => ?_)
      refine pw_lload (pc2 := 1391) dL_law_1389 rfl 3 rfl ?_
      refine pw_lcmp (pc2 := 1392) dL_law_1391 rfl ?_
      refine pw_if_ne (tgt := 1399) (pc2 := 1395) dL_law_1392 (by decide) rfl (fun c1392 => by exact absurd (lcmp_eq rfl) c1392) (fun _ => ?_)
      refine pw_iconst (pc2 := 1396) (v := 1) dL_law_1395 rfl (by decide) ?_
      refine pw_goto (tgt := 1400) dL_law_1396 (by decide) ?_
      exact pw_lawret dL_law_1400
    · skip
      refine pw_aload_n (pc2 := 1181) dL_law_1180 rfl rfl 5 rfl (by first | exact rf_ref _ | exact rf_opt _ | exact rf_nul) ?_
      refine PW.widen (kc' := 255 + 1) (ks' := 1530 + 6) (by omega) (by omega) ?_
      refine pw_lookS (kc := 255) (ks := 1530) (pc2 := 1184) (k_flk W152 HJ) cs_L_127 rfl dL_law_1181 rfl (by omega) rfl (by first | decide | simp [cat_rf, Value.category]) (fun h169 W169 => ?_)
      refine pw_sipush (pc2 := 1187) (v := (-1001)) dL_law_1184 rfl (by decide) ?_
      refine pw_icmp_ne (tgt := 1194) (pc2 := 1190) dL_law_1187 (by decide) rfl (fun _ => ?_) (fun c1187 => by exact absurd c1187 (fk_n HJ hs8 hn))
      refine pw_iconst (pc2 := 1195) (v := 0) dL_law_1194 rfl (by decide) ?_
      refine pw_iload (pc2 := 1197) dL_law_1195 rfl 1 rfl ?_
      refine pw_if_ne (tgt := 1204) (pc2 := 1200) dL_law_1197 (by decide) rfl (fun _ => ?_) (fun c1197 => by exact absurd c1197 (ne_n hn (by omega)))
      refine pw_iconst (pc2 := 1205) (v := 0) dL_law_1204 rfl (by decide) ?_
      refine pw_icmp_ne (tgt := 1294) (pc2 := 1208) dL_law_1205 (by decide) rfl (fun c1205 => by exact absurd (by decide) c1205) (fun _ => ?_)
      refine pw_aload_n (pc2 := 1209) dL_law_1208 rfl rfl 5 rfl (by first | exact rf_ref _ | exact rf_opt _ | exact rf_nul) ?_
      refine pw_bipush (pc2 := 1211) (v := 109) dL_law_1209 rfl (by decide) ?_
      refine pw_iconst (pc2 := 1212) (v := 0) dL_law_1211 rfl (by decide) ?_
      refine pw_iconst (pc2 := 1213) (v := 0) dL_law_1212 rfl (by decide) ?_
      refine PW.widen (kc' := 254 + 1) (ks' := 1524 + 6) (by omega) (by omega) ?_
      refine pw_lookS (kc := 254) (ks := 1524) (pc2 := 1216) (z_mm W169 (fun z => absurd z.1 (by decide))) cs_L_141 rfl dL_law_1213 rfl (by omega) rfl (by first | decide | simp [cat_rf, Value.category]) (fun h170 W170 => ?_)
      refine pw_sipush (pc2 := 1219) (v := (-1001)) dL_law_1216 rfl (by decide) ?_
      refine pw_icmp_ne (tgt := 1294) (pc2 := 1222) dL_law_1219 (by decide) rfl (fun c1219 => by exact absurd (by decide) c1219) (fun _ => ?_)
      refine pw_aload_n (pc2 := 1223) dL_law_1222 rfl rfl 5 rfl (by first | exact rf_ref _ | exact rf_opt _ | exact rf_nul) ?_
      refine pw_bipush (pc2 := 1225) (v := 109) dL_law_1223 rfl (by decide) ?_
      refine pw_iconst (pc2 := 1226) (v := 5) dL_law_1225 rfl (by decide) ?_
      refine pw_iconst (pc2 := 1227) (v := 0) dL_law_1226 rfl (by decide) ?_
      refine PW.widen (kc' := 253 + 1) (ks' := 1518 + 6) (by omega) (by omega) ?_
      refine pw_lookS (kc := 253) (ks := 1518) (pc2 := 1230) (z_mm W170 (fun z => absurd z.2 (by decide))) cs_L_141 rfl dL_law_1227 rfl (by omega) rfl (by first | decide | simp [cat_rf, Value.category]) (fun h171 W171 => ?_)
      refine pw_sipush (pc2 := 1233) (v := (-1001)) dL_law_1230 rfl (by decide) ?_
      refine pw_icmp_ne (tgt := 1294) (pc2 := 1236) dL_law_1233 (by decide) rfl (fun c1233 => by exact absurd (by decide) c1233) (fun _ => ?_)
      refine pw_aload_n (pc2 := 1237) dL_law_1236 rfl rfl 5 rfl (by first | exact rf_ref _ | exact rf_opt _ | exact rf_nul) ?_
      refine pw_bipush (pc2 := 1239) (v := 98) dL_law_1237 rfl (by decide) ?_
      refine pw_iconst (pc2 := 1240) (v := 3) dL_law_1239 rfl (by decide) ?_
      refine pw_iconst (pc2 := 1241) (v := 0) dL_law_1240 rfl (by decide) ?_
      refine PW.widen (kc' := 252 + 1) (ks' := 1512 + 6) (by omega) (by omega) ?_
      refine pw_lookS (kc := 252) (ks := 1512) (pc2 := 1244) (x_mon_b W171 (fun z => absurd z.2 (by decide))) cs_L_141 rfl dL_law_1241 rfl (by omega) rfl (by first | decide | simp [cat_rf, Value.category]) (fun h172 W172 => ?_)
      refine pw_sipush (pc2 := 1247) (v := (-1001)) dL_law_1244 rfl (by decide) ?_
      refine pw_icmp_ne (tgt := 1294) (pc2 := 1250) dL_law_1247 (by decide) rfl (fun c1247 => by exact absurd (by decide) c1247) (fun _ => ?_)
      refine pw_aload_n (pc2 := 1251) dL_law_1250 rfl rfl 5 rfl (by first | exact rf_ref _ | exact rf_opt _ | exact rf_nul) ?_
      refine pw_bipush (pc2 := 1253) (v := 102) dL_law_1251 rfl (by decide) ?_
      refine pw_iconst (pc2 := 1254) (v := 3) dL_law_1253 rfl (by decide) ?_
      refine pw_iconst (pc2 := 1255) (v := 1) dL_law_1254 rfl (by decide) ?_
      refine PW.widen (kc' := 250 + 2) (ks' := 1500 + 12) (by omega) (by omega) ?_
      refine pw_lookS (kc := 250) (ks := 1500) (pc2 := 1258) (z_mf W172 (fun z => absurd z.1.2 (by decide))) cs_L_141 rfl dL_law_1255 rfl (by omega) rfl (by first | decide | simp [cat_rf, Value.category]) (fun h173 W173 => ?_)
      refine pw_sipush (pc2 := 1261) (v := (-1001)) dL_law_1258 rfl (by decide) ?_
      refine pw_icmp_ne (tgt := 1294) (pc2 := 1264) dL_law_1261 (by decide) rfl (fun c1261 => by exact absurd (by decide) c1261) (fun _ => ?_)
      refine pw_aload_n (pc2 := 1265) dL_law_1264 rfl rfl 5 rfl (by first | exact rf_ref _ | exact rf_opt _ | exact rf_nul) ?_
      refine pw_bipush (pc2 := 1267) (v := 102) dL_law_1265 rfl (by decide) ?_
      refine pw_iconst (pc2 := 1268) (v := 0) dL_law_1267 rfl (by decide) ?_
      refine pw_iconst (pc2 := 1269) (v := 0) dL_law_1268 rfl (by decide) ?_
      refine PW.widen (kc' := 248 + 2) (ks' := 1488 + 12) (by omega) (by omega) ?_
      refine pw_lookS (kc := 248) (ks := 1488) (pc2 := 1272) (z_mf W173 (fun z => absurd z.2.1 (by decide))) cs_L_141 rfl dL_law_1269 rfl (by omega) rfl (by first | decide | simp [cat_rf, Value.category]) (fun h174 W174 => ?_)
      refine pw_sipush (pc2 := 1275) (v := (-1001)) dL_law_1272 rfl (by decide) ?_
      refine pw_icmp_ne (tgt := 1294) (pc2 := 1278) dL_law_1275 (by decide) rfl (fun c1275 => by exact absurd (by decide) c1275) (fun _ => ?_)
      refine pw_aload_n (pc2 := 1279) dL_law_1278 rfl rfl 5 rfl (by first | exact rf_ref _ | exact rf_opt _ | exact rf_nul) ?_
      refine pw_bipush (pc2 := 1281) (v := 102) dL_law_1279 rfl (by decide) ?_
      refine pw_iconst (pc2 := 1282) (v := 0) dL_law_1281 rfl (by decide) ?_
      refine pw_sipush (pc2 := 1285) (v := 10000) dL_law_1282 rfl (by decide) ?_
      refine PW.widen (kc' := 246 + 2) (ks' := 1476 + 12) (by omega) (by omega) ?_
      refine pw_lookS (kc := 246) (ks := 1476) (pc2 := 1288) (z_mf W174 (fun z => absurd z.2.2 (by decide))) cs_L_141 rfl dL_law_1285 rfl (by omega) rfl (by first | decide | simp [cat_rf, Value.category]) (fun h175 W175 => ?_)
      refine pw_sipush (pc2 := 1291) (v := (-1001)) dL_law_1288 rfl (by decide) ?_
      refine pw_icmp_eq (tgt := 1296) (pc2 := 1294) dL_law_1291 (by decide) rfl (fun _ => ?_) (fun c1291 => by exact absurd (by decide) c1291)
      refine pw_iconst (pc2 := 1297) (v := 0) dL_law_1296 rfl (by decide) ?_
      refine pw_istore (pc2 := 1299) (L2 := [(9, Value.int 0), (8, Value.int (nI (nts σ))), (7, Value.int (nI (npk σ))), (5, Value.long (sumF σ)), (0, Value.ref sc), (1, Value.ref (A 0 0)), (2, Value.ref (A 60 0)), (3, Value.int (nI (nrl σ)))]) dL_law_1297 rfl (by decide) rfl ?_
      refine pw_iload (pc2 := 1301) dL_law_1299 rfl 0 rfl ?_
      refine pw_iconst (pc2 := 1302) (v := 3) dL_law_1301 rfl (by decide) ?_
      refine pw_icmp_ge (tgt := 1349) (pc2 := 1305) dL_law_1302 (by decide) rfl (fun c1302 => by exact absurd c1302 (by decide)) (fun _ => ?_)
      refine pw_aload_n (pc2 := 1306) dL_law_1305 rfl rfl 5 rfl (by first | exact rf_ref _ | exact rf_opt _ | exact rf_nul) ?_
      refine pw_iload (pc2 := 1308) dL_law_1306 rfl 2 rfl ?_
      refine pw_bipush (pc2 := 1310) (v := 100) dL_law_1308 rfl (by decide) ?_
      refine pw_iload (pc2 := 1312) dL_law_1310 rfl 0 rfl ?_
      refine PW.widen (kc' := 243 + 3) (ks' := 1458 + 18) (by omega) (by omega) ?_
      refine pw_lookS (kc := 243) (ks := 1458) (pc2 := 1315) (z_rl0 W175 hx) cs_L_152 rfl dL_law_1312 rfl (by omega) rfl (by first | decide | simp [cat_rf, Value.category]) (fun h176 W176 => ?_)
      refine pw_sipush (pc2 := 1318) (v := (-1001)) dL_law_1315 rfl (by decide) ?_
      refine pw_icmp_ne (tgt := 1341) (pc2 := 1321) dL_law_1318 (by decide) rfl (fun c1318 => by exact absurd (by decide) c1318) (fun _ => ?_)
      refine pw_iload (pc2 := 1323) dL_law_1321 rfl 2 rfl ?_
      refine pw_if_le (tgt := 1343) (pc2 := 1326) dL_law_1323 (by decide) rfl (fun c1323 => by exact absurd c1323 (q0)) (fun _ => ?_)
      refine pw_aload_n (pc2 := 1327) dL_law_1326 rfl rfl 5 rfl (by first | exact rf_ref _ | exact rf_opt _ | exact rf_nul) ?_
      refine pw_iconst (pc2 := 1328) (v := 0) dL_law_1327 rfl (by decide) ?_
      refine pw_bipush (pc2 := 1330) (v := 99) dL_law_1328 rfl (by decide) ?_
      refine pw_iload (pc2 := 1332) dL_law_1330 rfl 0 rfl ?_
      refine PW.widen (kc' := 240 + 3) (ks' := 1440 + 18) (by omega) (by omega) ?_
      refine pw_lookS (kc := 240) (ks := 1440) (pc2 := 1335) (y_rl0 W176 HJ h0) cs_L_152 rfl dL_law_1332 rfl (by omega) rfl (by first | decide | simp [cat_rf, Value.category]) (fun h177 W177 => ?_)
      refine pw_sipush (pc2 := 1338) (v := (-1002)) dL_law_1335 rfl (by decide) ?_
      refine pw_icmp_eq (tgt := 1343) (pc2 := 1341) dL_law_1338 (by decide) rfl (fun _ => ?_) (fun c1338 => by exact absurd (by decide) c1338)
      refine pw_iinc (pc2 := 1346) (v := 1) (L2 := [(9, Value.int 1), (8, Value.int (nI (nts σ))), (7, Value.int (nI (npk σ))), (5, Value.long (sumF σ)), (0, Value.ref sc), (1, Value.ref (A 0 0)), (2, Value.ref (A 60 0)), (3, Value.int (nI (nrl σ)))]) dL_law_1343 rfl 0 rfl (by decide) (by decide) rfl ?_
      refine pw_goto (tgt := 1299) dL_law_1346 (by decide) ?_
      refine pw_iload (pc2 := 1301) dL_law_1299 rfl 0 rfl ?_
      refine pw_iconst (pc2 := 1302) (v := 3) dL_law_1301 rfl (by decide) ?_
      refine pw_icmp_ge (tgt := 1349) (pc2 := 1305) dL_law_1302 (by decide) rfl (fun c1302 => by exact absurd c1302 (by decide)) (fun _ => ?_)
      refine pw_aload_n (pc2 := 1306) dL_law_1305 rfl rfl 5 rfl (by first | exact rf_ref _ | exact rf_opt _ | exact rf_nul) ?_
      refine pw_iload (pc2 := 1308) dL_law_1306 rfl 2 rfl ?_
      refine pw_bipush (pc2 := 1310) (v := 100) dL_law_1308 rfl (by decide) ?_
      refine pw_iload (pc2 := 1312) dL_law_1310 rfl 0 rfl ?_
      refine PW.widen (kc' := 238 + 2) (ks' := 1428 + 12) (by omega) (by omega) ?_
      refine pw_lookS (kc := 238) (ks := 1428) (pc2 := 1315) (z_rl1 W177 hx) cs_L_152 rfl dL_law_1312 rfl (by omega) rfl (by first | decide | simp [cat_rf, Value.category]) (fun h178 W178 => ?_)
      refine pw_sipush (pc2 := 1318) (v := (-1001)) dL_law_1315 rfl (by decide) ?_
      refine pw_icmp_ne (tgt := 1341) (pc2 := 1321) dL_law_1318 (by decide) rfl (fun c1318 => by exact absurd (by decide) c1318) (fun _ => ?_)
      refine pw_iload (pc2 := 1323) dL_law_1321 rfl 2 rfl ?_
      refine pw_if_le (tgt := 1343) (pc2 := 1326) dL_law_1323 (by decide) rfl (fun c1323 => by exact absurd c1323 (q0)) (fun _ => ?_)
      refine pw_aload_n (pc2 := 1327) dL_law_1326 rfl rfl 5 rfl (by first | exact rf_ref _ | exact rf_opt _ | exact rf_nul) ?_
      refine pw_iconst (pc2 := 1328) (v := 0) dL_law_1327 rfl (by decide) ?_
      refine pw_bipush (pc2 := 1330) (v := 99) dL_law_1328 rfl (by decide) ?_
      refine pw_iload (pc2 := 1332) dL_law_1330 rfl 0 rfl ?_
      refine PW.widen (kc' := 236 + 2) (ks' := 1416 + 12) (by omega) (by omega) ?_
      refine pw_lookS (kc := 236) (ks := 1416) (pc2 := 1335) (y_rl1 W178 HJ h0) cs_L_152 rfl dL_law_1332 rfl (by omega) rfl (by first | decide | simp [cat_rf, Value.category]) (fun h179 W179 => ?_)
      refine pw_sipush (pc2 := 1338) (v := (-1002)) dL_law_1335 rfl (by decide) ?_
      refine pw_icmp_eq (tgt := 1343) (pc2 := 1341) dL_law_1338 (by decide) rfl (fun _ => ?_) (fun c1338 => by exact absurd (by decide) c1338)
      refine pw_iinc (pc2 := 1346) (v := 2) (L2 := [(9, Value.int 2), (8, Value.int (nI (nts σ))), (7, Value.int (nI (npk σ))), (5, Value.long (sumF σ)), (0, Value.ref sc), (1, Value.ref (A 0 0)), (2, Value.ref (A 60 0)), (3, Value.int (nI (nrl σ)))]) dL_law_1343 rfl 0 rfl (by decide) (by decide) rfl ?_
      refine pw_goto (tgt := 1299) dL_law_1346 (by decide) ?_
      refine pw_iload (pc2 := 1301) dL_law_1299 rfl 0 rfl ?_
      refine pw_iconst (pc2 := 1302) (v := 3) dL_law_1301 rfl (by decide) ?_
      refine pw_icmp_ge (tgt := 1349) (pc2 := 1305) dL_law_1302 (by decide) rfl (fun c1302 => by exact absurd c1302 (by decide)) (fun _ => ?_)
      refine pw_aload_n (pc2 := 1306) dL_law_1305 rfl rfl 5 rfl (by first | exact rf_ref _ | exact rf_opt _ | exact rf_nul) ?_
      refine pw_iload (pc2 := 1308) dL_law_1306 rfl 2 rfl ?_
      refine pw_bipush (pc2 := 1310) (v := 100) dL_law_1308 rfl (by decide) ?_
      refine pw_iload (pc2 := 1312) dL_law_1310 rfl 0 rfl ?_
      refine PW.widen (kc' := 232 + 4) (ks' := 1392 + 24) (by omega) (by omega) ?_
      refine pw_lookS (kc := 232) (ks := 1392) (pc2 := 1315) (z_rl2 W179 hx) cs_L_152 rfl dL_law_1312 rfl (by omega) rfl (by first | decide | simp [cat_rf, Value.category]) (fun h180 W180 => ?_)
      refine pw_sipush (pc2 := 1318) (v := (-1001)) dL_law_1315 rfl (by decide) ?_
      refine pw_icmp_ne (tgt := 1341) (pc2 := 1321) dL_law_1318 (by decide) rfl (fun c1318 => by exact absurd (by decide) c1318) (fun _ => ?_)
      refine pw_iload (pc2 := 1323) dL_law_1321 rfl 2 rfl ?_
      refine pw_if_le (tgt := 1343) (pc2 := 1326) dL_law_1323 (by decide) rfl (fun c1323 => by exact absurd c1323 (q0)) (fun _ => ?_)
      refine pw_aload_n (pc2 := 1327) dL_law_1326 rfl rfl 5 rfl (by first | exact rf_ref _ | exact rf_opt _ | exact rf_nul) ?_
      refine pw_iconst (pc2 := 1328) (v := 0) dL_law_1327 rfl (by decide) ?_
      refine pw_bipush (pc2 := 1330) (v := 99) dL_law_1328 rfl (by decide) ?_
      refine pw_iload (pc2 := 1332) dL_law_1330 rfl 0 rfl ?_
      refine PW.widen (kc' := 228 + 4) (ks' := 1368 + 24) (by omega) (by omega) ?_
      refine pw_lookS (kc := 228) (ks := 1368) (pc2 := 1335) (y_rl2 W180 HJ h0) cs_L_152 rfl dL_law_1332 rfl (by omega) rfl (by first | decide | simp [cat_rf, Value.category]) (fun h181 W181 => ?_)
      refine pw_sipush (pc2 := 1338) (v := (-1002)) dL_law_1335 rfl (by decide) ?_
      refine pw_icmp_eq (tgt := 1343) (pc2 := 1341) dL_law_1338 (by decide) rfl (fun _ => ?_) (fun c1338 => by exact absurd (by decide) c1338)
      refine pw_iinc (pc2 := 1346) (v := 3) (L2 := [(9, Value.int 3), (8, Value.int (nI (nts σ))), (7, Value.int (nI (npk σ))), (5, Value.long (sumF σ)), (0, Value.ref sc), (1, Value.ref (A 0 0)), (2, Value.ref (A 60 0)), (3, Value.int (nI (nrl σ)))]) dL_law_1343 rfl 0 rfl (by decide) (by decide) rfl ?_
      refine pw_goto (tgt := 1299) dL_law_1346 (by decide) ?_
      refine pw_iload (pc2 := 1301) dL_law_1299 rfl 0 rfl ?_
      refine pw_iconst (pc2 := 1302) (v := 3) dL_law_1301 rfl (by decide) ?_
      refine pw_icmp_ge (tgt := 1349) (pc2 := 1305) dL_law_1302 (by decide) rfl (fun _ => ?_) (fun c1302 => by exact absurd (by decide) c1302)
      refine pw_aload_n (pc2 := 1350) dL_law_1349 rfl rfl 5 rfl (by first | exact rf_ref _ | exact rf_opt _ | exact rf_nul) ?_
      refine pw_iload (pc2 := 1352) dL_law_1350 rfl 2 rfl ?_
      refine pw_bipush (pc2 := 1354) (v := 100) dL_law_1352 rfl (by decide) ?_
      refine pw_bipush (pc2 := 1356) (v := 10) dL_law_1354 rfl (by decide) ?_
      refine PW.widen (kc' := 225 + 3) (ks' := 1350 + 18) (by omega) (by omega) ?_
      refine pw_lookS (kc := 225) (ks := 1350) (pc2 := 1359) (z_rlL W181 hx) cs_L_152 rfl dL_law_1356 rfl (by omega) rfl (by first | decide | simp [cat_rf, Value.category]) (fun h182 W182 => ?_)
      refine pw_sipush (pc2 := 1362) (v := (-1001)) dL_law_1359 rfl (by decide) ?_
      refine pw_icmp_ne (tgt := 1399) (pc2 := 1365) dL_law_1362 (by decide) rfl (fun c1362 => by exact absurd (by decide) c1362) (fun _ => ?_)
      refine pw_iload (pc2 := 1367) dL_law_1365 rfl 2 rfl ?_
      refine pw_if_eq (tgt := 1385) (pc2 := 1370) dL_law_1367 (by decide) rfl (fun c1367 => by exact absurd c1367 (qz)) (fun _ => ?_)
      refine pw_aload_n (pc2 := 1371) dL_law_1370 rfl rfl 5 rfl (by first | exact rf_ref _ | exact rf_opt _ | exact rf_nul) ?_
      refine pw_iconst (pc2 := 1372) (v := 0) dL_law_1371 rfl (by decide) ?_
      refine pw_bipush (pc2 := 1374) (v := 99) dL_law_1372 rfl (by decide) ?_
      refine pw_bipush (pc2 := 1376) (v := 10) dL_law_1374 rfl (by decide) ?_
      refine PW.widen (kc' := 222 + 3) (ks' := 1332 + 18) (by omega) (by omega) ?_
      refine pw_lookS (kc := 222) (ks := 1332) (pc2 := 1379) (y_rlL W182 HJ h0) cs_L_152 rfl dL_law_1376 rfl (by omega) rfl (by first | decide | simp [cat_rf, Value.category]) (fun h183 W183 => ?_)
      refine pw_sipush (pc2 := 1382) (v := (-1002)) dL_law_1379 rfl (by decide) ?_
      refine pw_icmp_ne (tgt := 1399) (pc2 := 1385) dL_law_1382 (by decide) rfl (fun c1382 => by exact absurd (by decide) c1382) (fun _ => ?_)
      refine pw_aload_n (pc2 := 1386) dL_law_1385 rfl rfl 5 rfl (by first | exact rf_ref _ | exact rf_opt _ | exact rf_nul) ?_
      refine PW.widen (kc' := 92 + 130) (ks' := 552 + 780) (by omega) (by omega) ?_
      refine pw_lookS (kc := 92) (ks := 552) (pc2 := 1389) (c_sum G _ W183 HJ) cs_L_175 rfl dL_law_1386 rfl (by omega) rfl (by first | decide | simp [cat_rf, Value.category]) (fun h184 W184 => ?_)
      refine pw_lload (pc2 := 1391) dL_law_1389 rfl 3 rfl ?_
      refine pw_lcmp (pc2 := 1392) dL_law_1391 rfl ?_
      refine pw_if_ne (tgt := 1399) (pc2 := 1395) dL_law_1392 (by decide) rfl (fun c1392 => by exact absurd (lcmp_eq rfl) c1392) (fun _ => ?_)
      refine pw_iconst (pc2 := 1396) (v := 1) dL_law_1395 rfl (by decide) ?_
      refine pw_goto (tgt := 1400) dL_law_1396 (by decide) ?_
      exact pw_lawret dL_law_1400
