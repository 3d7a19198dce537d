section CASES
variable {G : GT} {b Ln q m0 C0 U0 k : Nat} {xs : Nat → Int32} {a : PT} {mt : MT} {o : Int64} {Y : SY} {l5 l6 : Option Value} {post : Option Value → LT → Prop}
theorem lc_27 (hG : LawG G b Ln xs C0 U0) (hk : 6 * (k : Int) + 6 ≤ Ln) (hI : LI q C0 U0 k a mt Y) (hT : LTail G b q m0 C0 U0 k post) : V G (AL G m0) yL_law cL_law 7 (some .boolean) 12 (a, mt, o) 1042 [some (.ref b), some (.ref q), some (.ref m0), some (.ref (m0 + 15)), some (vi (6 * (k : Int))), l5, l6] [] post := by
  obtain ⟨T, N, R, P, S, cn, un⟩ := a
  obtain ⟨I, A, D⟩ := mt
  obtain ⟨hS, hLn, hC, hU, hst⟩ := hG
  obtain ⟨hP, hM, hW⟩ := hI
  have hM : RepM I A Y := hM
  have hb : 12000 * (k : Int) ≤ 80000000 := by omega
  have hb9 : 12000 * (k : Int) ≤ 90000000 := by omega
  have hc : C0 + k ≤ gN G := by omega
  have hu : U0 + 6 * k ≤ gU G := by omega
  refine s_aload_n 1043 dL_law_1042 rfl rfl ?_
  refine s_aload_n 1044 dL_law_1043 rfl rfl ?_
  refine s_iload 1046 dL_law_1044 rfl rfl ?_
  refine s_iconst 1047 dL_law_1046 rfl ?_
  refine s_iadd 1048 dL_law_1047 rfl ?_
  refine s_sld 1049 dL_law_1048 rfl hS (by omega) (by omega) ?_
  refine s_aload_n 1050 dL_law_1049 rfl rfl ?_
  refine s_iload 1052 dL_law_1050 rfl rfl ?_
  refine s_iconst 1053 dL_law_1052 rfl ?_
  refine s_iadd 1054 dL_law_1053 rfl ?_
  refine s_sld 1055 dL_law_1054 rfl hS (by omega) (by omega) ?_
  refine s_V2i 1058 dL_law_1055 rfl km_X11_share ml_L_139 ds_X11_share (Nat.le_of_ble_eq_true rfl) (al_recP hP.t12) rfl (l_prog (u_share (scI_rg xs _) (scI_rg xs _) hP hW (fun a' hP' => ?_)))
  refine ⟨_, rfl, ?_⟩
  refine s_aload_n 1059 dL_law_1058 rfl rfl ?_
  refine s_aload_n 1060 dL_law_1059 rfl rfl ?_
  refine s_iload 1062 dL_law_1060 rfl rfl ?_
  refine s_iconst 1063 dL_law_1062 rfl ?_
  refine s_iadd 1064 dL_law_1063 rfl ?_
  refine s_sld 1065 dL_law_1064 rfl hS (by omega) (by omega) ?_
  refine s_aload_n 1066 dL_law_1065 rfl rfl ?_
  refine s_iload 1068 dL_law_1066 rfl rfl ?_
  refine s_iconst 1069 dL_law_1068 rfl ?_
  refine s_iadd 1070 dL_law_1069 rfl ?_
  refine s_sld 1071 dL_law_1070 rfl hS (by omega) (by omega) ?_
  refine s_V2i 1074 dL_law_1071 rfl km_X12_share ml_L_142 ds_X12_share (Nat.le_of_ble_eq_true rfl) al_recM rfl (l_ref (fun F n u => o_share (scI_rg xs _) (scI_rg xs _) hM hW (fun I' A' hM' => ?_)))
  refine ⟨_, rfl, ?_⟩
  refine s_icmp_same 1218 dL_law_1074 rfl ?_
  exact hT _ _ _ _ _ _ ⟨hP'.more (by omega) (by omega), hM', wf_up0 hW⟩
theorem lc_28 (hG : LawG G b Ln xs C0 U0) (hk : 6 * (k : Int) + 6 ≤ Ln) (hI : LI q C0 U0 k a mt Y) (hT : LTail G b q m0 C0 U0 k post) : V G (AL G m0) yL_law cL_law 7 (some .boolean) 12 (a, mt, o) 1079 [some (.ref b), some (.ref q), some (.ref m0), some (.ref (m0 + 15)), some (vi (6 * (k : Int))), l5, l6] [] post := by
  obtain ⟨T, N, R, P, S, cn, un⟩ := a
  obtain ⟨I, A, D⟩ := mt
  obtain ⟨hS, hLn, hC, hU, hst⟩ := hG
  obtain ⟨hP, hM, hW⟩ := hI
  have hM : RepM I A Y := hM
  have hb : 12000 * (k : Int) ≤ 80000000 := by omega
  have hb9 : 12000 * (k : Int) ≤ 90000000 := by omega
  have hc : C0 + k ≤ gN G := by omega
  have hu : U0 + 6 * k ≤ gU G := by omega
  refine s_aload_n 1080 dL_law_1079 rfl rfl ?_
  refine s_aload_n 1081 dL_law_1080 rfl rfl ?_
  refine s_iload 1083 dL_law_1081 rfl rfl ?_
  refine s_iconst 1084 dL_law_1083 rfl ?_
  refine s_iadd 1085 dL_law_1084 rfl ?_
  refine s_sld 1086 dL_law_1085 rfl hS (by omega) (by omega) ?_
  refine s_V1i 1089 dL_law_1086 rfl km_X11_flushed ml_L_143 ds_X11_flushed (Nat.le_of_ble_eq_true rfl) (al_recP hP.t12) rfl (l_prog (u_flushed (scI_rg xs _) hP hW hb (fun a' hP' => ?_)))
  refine ⟨_, rfl, ?_⟩
  refine s_aload_n 1090 dL_law_1089 rfl rfl ?_
  refine s_aload_n 1091 dL_law_1090 rfl rfl ?_
  refine s_iload 1093 dL_law_1091 rfl rfl ?_
  refine s_iconst 1094 dL_law_1093 rfl ?_
  refine s_iadd 1095 dL_law_1094 rfl ?_
  refine s_sld 1096 dL_law_1095 rfl hS (by omega) (by omega) ?_
  refine s_V1i 1099 dL_law_1096 rfl km_X12_flushed ml_L_146 ds_X12_flushed (Nat.le_of_ble_eq_true rfl) al_recM rfl (l_ref (fun F n u => o_flushed (scI_rg xs _) hM hW hb9 (fun I' A' hM' => ?_)))
  refine ⟨_, rfl, ?_⟩
  refine s_icmp_same 1218 dL_law_1099 rfl ?_
  exact hT _ _ _ _ _ _ ⟨hP'.more (by omega) (by omega), hM', wf_up0 hW⟩
theorem lc_29 (hG : LawG G b Ln xs C0 U0) (hk : 6 * (k : Int) + 6 ≤ Ln) (hI : LI q C0 U0 k a mt Y) (hT : LTail G b q m0 C0 U0 k post) : V G (AL G m0) yL_law cL_law 7 (some .boolean) 12 (a, mt, o) 1104 [some (.ref b), some (.ref q), some (.ref m0), some (.ref (m0 + 15)), some (vi (6 * (k : Int))), l5, l6] [] post := by
  obtain ⟨T, N, R, P, S, cn, un⟩ := a
  obtain ⟨I, A, D⟩ := mt
  obtain ⟨hS, hLn, hC, hU, hst⟩ := hG
  obtain ⟨hP, hM, hW⟩ := hI
  have hM : RepM I A Y := hM
  have hb : 12000 * (k : Int) ≤ 80000000 := by omega
  have hb9 : 12000 * (k : Int) ≤ 90000000 := by omega
  have hc : C0 + k ≤ gN G := by omega
  have hu : U0 + 6 * k ≤ gU G := by omega
  refine s_aload_n 1105 dL_law_1104 rfl rfl ?_
  refine s_V0i 1108 dL_law_1105 rfl km_X11_undo ml_L_147 ds_X11_undo (Nat.le_of_ble_eq_true rfl) (al_recP hP.t12) rfl (l_prog (u_undo hP (fun a' hP' => ?_)))
  refine ⟨_, rfl, ?_⟩
  refine s_aload_n 1109 dL_law_1108 rfl rfl ?_
  refine s_V0i 1112 dL_law_1109 rfl km_X12_undo ml_L_150 ds_X12_undo (Nat.le_of_ble_eq_true rfl) al_recM rfl (l_ref (fun F n u => o_undo hM hW (fun I' A' hM' => ?_)))
  refine ⟨_, rfl, ?_⟩
  refine s_icmp_same 1218 dL_law_1112 rfl ?_
  exact hT _ _ _ _ _ _ ⟨hP'.more (by omega) (by omega), hM', wf_up (k_undo hW)⟩
theorem lc_30 (hG : LawG G b Ln xs C0 U0) (hk : 6 * (k : Int) + 6 ≤ Ln) (hI : LI q C0 U0 k a mt Y) (hT : LTail G b q m0 C0 U0 k post) : V G (AL G m0) yL_law cL_law 7 (some .boolean) 12 (a, mt, o) 1117 [some (.ref b), some (.ref q), some (.ref m0), some (.ref (m0 + 15)), some (vi (6 * (k : Int))), l5, l6] [] post := by
  obtain ⟨T, N, R, P, S, cn, un⟩ := a
  obtain ⟨I, A, D⟩ := mt
  obtain ⟨hS, hLn, hC, hU, hst⟩ := hG
  obtain ⟨hP, hM, hW⟩ := hI
  have hM : RepM I A Y := hM
  have hb : 12000 * (k : Int) ≤ 80000000 := by omega
  have hb9 : 12000 * (k : Int) ≤ 90000000 := by omega
  have hc : C0 + k ≤ gN G := by omega
  have hu : U0 + 6 * k ≤ gU G := by omega
  refine s_aload_n 1118 dL_law_1117 rfl rfl ?_
  refine s_V0i 1121 dL_law_1118 rfl km_X11_image ml_L_151 ds_X11_image (Nat.le_of_ble_eq_true rfl) (al_recP hP.t12) rfl (l_prog (u_image hP hW hb (fun a' hP' => ?_)))
  refine ⟨_, rfl, ?_⟩
  refine s_aload_n 1122 dL_law_1121 rfl rfl ?_
  refine s_V0i 1125 dL_law_1122 rfl km_X12_image ml_L_154 ds_X12_image (Nat.le_of_ble_eq_true rfl) al_recM rfl (l_ref (fun F n u => o_image hM hW (fun I' A' hM' => ?_)))
  refine ⟨_, rfl, ?_⟩
  refine s_icmp_same 1218 dL_law_1125 rfl ?_
  exact hT _ _ _ _ _ _ ⟨hP'.more (by omega) (by omega), hM', wf_up (k_image hW)⟩
theorem lc_31 (hG : LawG G b Ln xs C0 U0) (hk : 6 * (k : Int) + 6 ≤ Ln) (hI : LI q C0 U0 k a mt Y) (hT : LTail G b q m0 C0 U0 k post) : V G (AL G m0) yL_law cL_law 7 (some .boolean) 12 (a, mt, o) 1130 [some (.ref b), some (.ref q), some (.ref m0), some (.ref (m0 + 15)), some (vi (6 * (k : Int))), l5, l6] [] post := by
  obtain ⟨T, N, R, P, S, cn, un⟩ := a
  obtain ⟨I, A, D⟩ := mt
  obtain ⟨hS, hLn, hC, hU, hst⟩ := hG
  obtain ⟨hP, hM, hW⟩ := hI
  have hM : RepM I A Y := hM
  have hb : 12000 * (k : Int) ≤ 80000000 := by omega
  have hb9 : 12000 * (k : Int) ≤ 90000000 := by omega
  have hc : C0 + k ≤ gN G := by omega
  have hu : U0 + 6 * k ≤ gU G := by omega
  refine s_aload_n 1131 dL_law_1130 rfl rfl ?_
  refine s_V0i 1134 dL_law_1131 rfl km_X11_back ml_L_155 ds_X11_back (Nat.le_of_ble_eq_true rfl) (al_recP hP.t12) rfl (l_prog (u_back hP hW hb (fun a' hP' => ?_)))
  refine ⟨_, rfl, ?_⟩
  refine s_aload_n 1135 dL_law_1134 rfl rfl ?_
  refine s_V0i 1138 dL_law_1135 rfl km_X12_back ml_L_158 ds_X12_back (Nat.le_of_ble_eq_true rfl) al_recM rfl (l_ref (fun F n u => o_back hM hW (fun I' A' hM' => ?_)))
  refine ⟨_, rfl, ?_⟩
  refine s_icmp_same 1218 dL_law_1138 rfl ?_
  exact hT _ _ _ _ _ _ ⟨hP'.more (by omega) (by omega), hM', wf_up (k_back hW)⟩
theorem lc_32 (hG : LawG G b Ln xs C0 U0) (hk : 6 * (k : Int) + 6 ≤ Ln) (hI : LI q C0 U0 k a mt Y) (hT : LTail G b q m0 C0 U0 k post) : V G (AL G m0) yL_law cL_law 7 (some .boolean) 12 (a, mt, o) 1143 [some (.ref b), some (.ref q), some (.ref m0), some (.ref (m0 + 15)), some (vi (6 * (k : Int))), l5, l6] [] post := by
  obtain ⟨T, N, R, P, S, cn, un⟩ := a
  obtain ⟨I, A, D⟩ := mt
  obtain ⟨hS, hLn, hC, hU, hst⟩ := hG
  obtain ⟨hP, hM, hW⟩ := hI
  have hM : RepM I A Y := hM
  have hb : 12000 * (k : Int) ≤ 80000000 := by omega
  have hb9 : 12000 * (k : Int) ≤ 90000000 := by omega
  have hc : C0 + k ≤ gN G := by omega
  have hu : U0 + 6 * k ≤ gU G := by omega
  refine s_aload_n 1144 dL_law_1143 rfl rfl ?_
  refine s_aload_n 1145 dL_law_1144 rfl rfl ?_
  refine s_iload 1147 dL_law_1145 rfl rfl ?_
  refine s_iconst 1148 dL_law_1147 rfl ?_
  refine s_iadd 1149 dL_law_1148 rfl ?_
  refine s_sld 1150 dL_law_1149 rfl hS (by omega) (by omega) ?_
  refine s_V1i 1153 dL_law_1150 rfl km_X11_status ml_L_159 ds_X11_status (Nat.le_of_ble_eq_true rfl) (al_recP hP.t12) rfl (l_prog (u_status (scI_rg xs _) hP (fun a' hP' => ?_)))
  refine ⟨_, rfl, ?_⟩
  refine s_aload_n 1154 dL_law_1153 rfl rfl ?_
  refine s_aload_n 1155 dL_law_1154 rfl rfl ?_
  refine s_iload 1157 dL_law_1155 rfl rfl ?_
  refine s_iconst 1158 dL_law_1157 rfl ?_
  refine s_iadd 1159 dL_law_1158 rfl ?_
  refine s_sld 1160 dL_law_1159 rfl hS (by omega) (by omega) ?_
  refine s_V1i 1163 dL_law_1160 rfl km_X12_status ml_L_162 ds_X12_status (Nat.le_of_ble_eq_true rfl) al_recM rfl (l_ref (fun F n u => o_status (scI_rg xs _) hM (fun I' A' hM' => ?_)))
  refine ⟨_, rfl, ?_⟩
  refine s_icmp_same 1218 dL_law_1163 rfl ?_
  exact hT _ _ _ _ _ _ ⟨hP'.more (by omega) (by omega), hM', wf_up0 hW⟩
theorem lc_33 (hG : LawG G b Ln xs C0 U0) (hk : 6 * (k : Int) + 6 ≤ Ln) (hI : LI q C0 U0 k a mt Y) (hT : LTail G b q m0 C0 U0 k post) : V G (AL G m0) yL_law cL_law 7 (some .boolean) 12 (a, mt, o) 1168 [some (.ref b), some (.ref q), some (.ref m0), some (.ref (m0 + 15)), some (vi (6 * (k : Int))), l5, l6] [] post := by
  obtain ⟨T, N, R, P, S, cn, un⟩ := a
  obtain ⟨I, A, D⟩ := mt
  obtain ⟨hS, hLn, hC, hU, hst⟩ := hG
  obtain ⟨hP, hM, hW⟩ := hI
  have hM : RepM I A Y := hM
  have hb : 12000 * (k : Int) ≤ 80000000 := by omega
  have hb9 : 12000 * (k : Int) ≤ 90000000 := by omega
  have hc : C0 + k ≤ gN G := by omega
  have hu : U0 + 6 * k ≤ gU G := by omega
  refine s_aload_n 1169 dL_law_1168 rfl rfl ?_
  refine s_aload_n 1170 dL_law_1169 rfl rfl ?_
  refine s_iload 1172 dL_law_1170 rfl rfl ?_
  refine s_iconst 1173 dL_law_1172 rfl ?_
  refine s_iadd 1174 dL_law_1173 rfl ?_
  refine s_sld 1175 dL_law_1174 rfl hS (by omega) (by omega) ?_
  refine s_V1i 1178 dL_law_1175 rfl km_X11_most ml_L_163 ds_X11_most (Nat.le_of_ble_eq_true rfl) (al_recP hP.t12) rfl (l_prog (u_most (scI_rg xs _) hP hW hb (fun a' hP' => ?_)))
  refine ⟨_, rfl, ?_⟩
  refine s_aload_n 1179 dL_law_1178 rfl rfl ?_
  refine s_aload_n 1180 dL_law_1179 rfl rfl ?_
  refine s_iload 1182 dL_law_1180 rfl rfl ?_
  refine s_iconst 1183 dL_law_1182 rfl ?_
  refine s_iadd 1184 dL_law_1183 rfl ?_
  refine s_sld 1185 dL_law_1184 rfl hS (by omega) (by omega) ?_
  refine s_V1i 1188 dL_law_1185 rfl km_X12_most ml_L_166 ds_X12_most (Nat.le_of_ble_eq_true rfl) al_recM rfl (l_ref (fun F n u => o_most (scI_rg xs _) hM hW hb9 (fun I' A' hM' => ?_)))
  refine ⟨_, rfl, ?_⟩
  refine s_icmp_same 1218 dL_law_1188 rfl ?_
  exact hT _ _ _ _ _ _ ⟨hP'.more (by omega) (by omega), hM', wf_up0 hW⟩
theorem lc_34 (hG : LawG G b Ln xs C0 U0) (hk : 6 * (k : Int) + 6 ≤ Ln) (hI : LI q C0 U0 k a mt Y) (hT : LTail G b q m0 C0 U0 k post) : V G (AL G m0) yL_law cL_law 7 (some .boolean) 12 (a, mt, o) 1193 [some (.ref b), some (.ref q), some (.ref m0), some (.ref (m0 + 15)), some (vi (6 * (k : Int))), l5, l6] [] post := by
  obtain ⟨T, N, R, P, S, cn, un⟩ := a
  obtain ⟨I, A, D⟩ := mt
  obtain ⟨hS, hLn, hC, hU, hst⟩ := hG
  obtain ⟨hP, hM, hW⟩ := hI
  have hM : RepM I A Y := hM
  have hb : 12000 * (k : Int) ≤ 80000000 := by omega
  have hb9 : 12000 * (k : Int) ≤ 90000000 := by omega
  have hc : C0 + k ≤ gN G := by omega
  have hu : U0 + 6 * k ≤ gU G := by omega
  refine s_aload_n 1194 dL_law_1193 rfl rfl ?_
  refine s_aload_n 1195 dL_law_1194 rfl rfl ?_
  refine s_iload 1197 dL_law_1195 rfl rfl ?_
  refine s_iconst 1198 dL_law_1197 rfl ?_
  refine s_iadd 1199 dL_law_1198 rfl ?_
  refine s_sld 1200 dL_law_1199 rfl hS (by omega) (by omega) ?_
  refine s_V1i 1203 dL_law_1200 rfl km_X11_count ml_L_167 ds_X11_count (Nat.le_of_ble_eq_true rfl) (al_recP hP.t12) rfl (l_prog (u_count (scI_rg xs _) hP (fun a' hP' => ?_)))
  refine ⟨_, rfl, ?_⟩
  refine s_aload_n 1204 dL_law_1203 rfl rfl ?_
  refine s_aload_n 1205 dL_law_1204 rfl rfl ?_
  refine s_iload 1207 dL_law_1205 rfl rfl ?_
  refine s_iconst 1208 dL_law_1207 rfl ?_
  refine s_iadd 1209 dL_law_1208 rfl ?_
  refine s_sld 1210 dL_law_1209 rfl hS (by omega) (by omega) ?_
  refine s_V1i 1213 dL_law_1210 rfl km_X12_count ml_L_170 ds_X12_count (Nat.le_of_ble_eq_true rfl) al_recM rfl (l_ref (fun F n u => o_count (scI_rg xs _) hM (fun I' A' hM' => ?_)))
  refine ⟨_, rfl, ?_⟩
  refine s_icmp_same 1218 dL_law_1213 rfl ?_
  exact hT _ _ _ _ _ _ ⟨hP'.more (by omega) (by omega), hM', wf_up0 hW⟩
end CASES
