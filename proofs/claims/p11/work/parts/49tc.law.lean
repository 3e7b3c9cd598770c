noncomputable section
/-! the law: its own table from its loop on -/
def te_0_775 (L : Nat) (xs : Nat → Int32) : Nat → eE := (e_T 1164 (e_T 1152 (e_T 1149 (e_T 1147 (e_L 1147 (0, e_S (g_scd L xs 1148), 0, 0)) (e_T 1148 (e_L 1148 (0, ei_load 0 2 1149, 0, 0)) (e_L 1149 (0, ei_load 3 0 1150, 0, 0)))) (e_T 1150 (e_L 1150 (0, ei_push (0, 3) 1151, 0, 0)) (e_T 1151 (e_L 1151 (0, ei_bin eF_add 1152, 0, 0)) (e_L 1152 (0, e_S (g_scd L xs 1153), 0, 0))))) (e_T 1157 (e_T 1153 (e_L 1153 (0, ei_if1 0 1160 1156, 0, 0)) (e_T 1156 (e_L 1156 (0, ei_push (0, 1) 1157, 0, 0)) (e_L 1157 (0, ei_goto 1161, 0, 0)))) (e_T 1160 (e_L 1160 (0, ei_push (0, 0) 1161, 0, 0)) (e_T 1161 (e_L 1161 (2, e_nof, 295, 4)) (e_L 1164 (0, ei_stk ef_pop 1165, 0, 0)))))) (e_T 1172 (e_T 1169 (e_T 1165 (e_L 1165 (0, ei_goto 2142, 0, 0)) (e_T 1168 (e_L 1168 (0, ei_load 1 2 1169, 0, 0)) (e_L 1169 (0, ei_load 0 2 1170, 0, 0)))) (e_T 1170 (e_L 1170 (0, ei_load 3 0 1171, 0, 0)) (e_T 1171 (e_L 1171 (0, ei_push (0, 1) 1172, 0, 0)) (e_L 1172 (0, ei_bin eF_add 1173, 0, 0))))) (e_T 1177 (e_T 1173 (e_L 1173 (0, e_S (g_scd L xs 1174), 0, 0)) (e_T 1174 (e_L 1174 (2, e_nof, 210, 2)) (e_L 1177 (0, ei_stk ef_pop 1178, 0, 0)))) (e_T 1178 (e_L 1178 (0, ei_load 2 2 1179, 0, 0)) (e_T 1179 (e_L 1179 (0, ei_load 0 2 1180, 0, 0)) (e_L 1180 (0, ei_load 3 0 1181, 0, 0)))))))
set_option maxRecDepth 20000 in
set_option maxHeartbeats 4000000 in
theorem te_0_775_ok (L : Nat) (xs : Nat → Int32) : ∀ pc, e_EOl L xs pc (te_0_775 L xs pc) :=
  (e_TokL
  (e_TokL
  (e_TokL
  (e_TokL
  (e_LokL (Or.inr (Or.inr ⟨rfl, (x_dk dn_0_7_ok 75 rfl)⟩)))
  (e_TokL
  (e_LokL (e_stL (er_aload_n (i := 0) (x_dk dn_0_7_ok 76 rfl))))
  (e_LokL (e_stL (er_iload_n (i := 3) (x_dk dn_0_7_ok 77 rfl))))))
  (e_TokL
  (e_LokL (e_stL (er_iconst (n := 3) (z := 3) (v := 3) (x_dk dn_0_7_ok 78 rfl) (by decide) (by decide))))
  (e_TokL
  (e_LokL (e_stL (er_iadd (x_dk dn_0_7_ok 79 rfl))))
  (e_LokL (Or.inr (Or.inr ⟨rfl, (x_dk dn_0_7_ok 80 rfl)⟩))))))
  (e_TokL
  (e_TokL
  (e_LokL (e_stL (er_ifeq (off := 7) (tg := 1160) (x_dk dn_0_7_ok 81 rfl) (by decide))))
  (e_TokL
  (e_LokL (e_stL (er_iconst (n := 1) (z := 1) (v := 1) (x_dk dn_0_7_ok 82 rfl) (by decide) (by decide))))
  (e_LokL (e_stL (er_goto (off := 4) (tg := 1161) (x_dk dn_0_7_ok 83 rfl) (by decide))))))
  (e_TokL
  (e_LokL (e_stL (er_iconst (n := 0) (z := 0) (v := 0) (x_dk dn_0_7_ok 84 rfl) (by decide) (by decide))))
  (e_TokL
  (e_LokL (e_caL (q' := n_295) rfl (xr_callV (q' := n_295) (ix := 100) (n := 3) (in_t11 (List.mem_of_getElem? (i := 124) rfl) rfl) good_w (in_t1 (List.mem_of_getElem? (i := 14) rfl) rfl) (in_t11 (List.mem_of_getElem? (i := 121) rfl) rfl) (in_t11 (List.mem_of_getElem? (i := 122) rfl) rfl) (in_t11 (List.mem_of_getElem? (i := 123) rfl) rfl) (by decide +kernel) (by decide +kernel) (by decide +kernel) (x_dk dn_0_7_ok 85 rfl))))
  (e_LokL (e_stL (er_pop (x_dk dn_0_7_ok 86 rfl))))))))
  (e_TokL
  (e_TokL
  (e_TokL
  (e_LokL (e_stL (er_goto (off := 977) (tg := 2142) (x_dk dn_0_7_ok 87 rfl) (by decide))))
  (e_TokL
  (e_LokL (e_stL (er_aload_n (i := 1) (x_dk dn_0_7_ok 88 rfl))))
  (e_LokL (e_stL (er_aload_n (i := 0) (x_dk dn_0_7_ok 89 rfl))))))
  (e_TokL
  (e_LokL (e_stL (er_iload_n (i := 3) (x_dk dn_0_7_ok 90 rfl))))
  (e_TokL
  (e_LokL (e_stL (er_iconst (n := 1) (z := 1) (v := 1) (x_dk dn_0_7_ok 91 rfl) (by decide) (by decide))))
  (e_LokL (e_stL (er_iadd (x_dk dn_0_7_ok 92 rfl)))))))
  (e_TokL
  (e_TokL
  (e_LokL (Or.inr (Or.inr ⟨rfl, (x_dk dn_0_7_ok 93 rfl)⟩)))
  (e_TokL
  (e_LokL (e_caL (q' := n_210) rfl (xr_callV (q' := n_210) (ix := 101) (n := 1) (in_t5 (List.mem_of_getElem? (i := 71) rfl) rfl) good_w (in_t1 (List.mem_of_getElem? (i := 1) rfl) rfl) (in_t5 (List.mem_of_getElem? (i := 68) rfl) rfl) (in_t5 (List.mem_of_getElem? (i := 69) rfl) rfl) (in_t5 (List.mem_of_getElem? (i := 70) rfl) rfl) (by decide +kernel) (by decide +kernel) (by decide +kernel) (x_dk dn_0_7_ok 94 rfl))))
  (e_LokL (e_stL (er_pop (x_dk dn_0_7_ok 95 rfl))))))
  (e_TokL
  (e_LokL (e_stL (er_aload_n (i := 2) (x_dk dn_0_7_ok 96 rfl))))
  (e_TokL
  (e_LokL (e_stL (er_aload_n (i := 0) (x_dk dn_0_7_ok 97 rfl))))
  (e_LokL (e_stL (er_iload_n (i := 3) (x_dk dn_0_7_ok 98 rfl)))))))))
def te_0_799 (L : Nat) (xs : Nat → Int32) : Nat → eE := (e_T 1196 (e_T 1188 (e_T 1183 (e_T 1181 (e_L 1181 (0, ei_push (0, 1) 1182, 0, 0)) (e_T 1182 (e_L 1182 (0, ei_bin eF_add 1183, 0, 0)) (e_L 1183 (0, e_S (g_scd L xs 1184), 0, 0)))) (e_T 1184 (e_L 1184 (2, e_nof, 357, 2)) (e_T 1187 (e_L 1187 (0, ei_stk ef_pop 1188, 0, 0)) (e_L 1188 (0, ei_goto 2142, 0, 0))))) (e_T 1193 (e_T 1191 (e_L 1191 (0, ei_load 1 2 1192, 0, 0)) (e_T 1192 (e_L 1192 (0, ei_load 0 2 1193, 0, 0)) (e_L 1193 (0, ei_load 3 0 1194, 0, 0)))) (e_T 1194 (e_L 1194 (0, ei_push (0, 1) 1195, 0, 0)) (e_T 1195 (e_L 1195 (0, ei_bin eF_add 1196, 0, 0)) (e_L 1196 (0, e_S (g_scd L xs 1197), 0, 0)))))) (e_T 1204 (e_T 1201 (e_T 1197 (e_L 1197 (2, e_nof, 211, 2)) (e_T 1200 (e_L 1200 (0, ei_stk ef_pop 1201, 0, 0)) (e_L 1201 (0, ei_load 2 2 1202, 0, 0)))) (e_T 1202 (e_L 1202 (0, ei_load 0 2 1203, 0, 0)) (e_T 1203 (e_L 1203 (0, ei_load 3 0 1204, 0, 0)) (e_L 1204 (0, ei_push (0, 1) 1205, 0, 0))))) (e_T 1207 (e_T 1205 (e_L 1205 (0, ei_bin eF_add 1206, 0, 0)) (e_T 1206 (e_L 1206 (0, e_S (g_scd L xs 1207), 0, 0)) (e_L 1207 (2, e_nof, 358, 2)))) (e_T 1210 (e_L 1210 (0, ei_stk ef_pop 1211, 0, 0)) (e_T 1211 (e_L 1211 (0, ei_goto 2142, 0, 0)) (e_L 1214 (0, ei_load 1 2 1215, 0, 0)))))))
set_option maxRecDepth 20000 in
set_option maxHeartbeats 4000000 in
theorem te_0_799_ok (L : Nat) (xs : Nat → Int32) : ∀ pc, e_EOl L xs pc (te_0_799 L xs pc) :=
  (e_TokL
  (e_TokL
  (e_TokL
  (e_TokL
  (e_LokL (e_stL (er_iconst (n := 1) (z := 1) (v := 1) (x_dk dn_0_7_ok 99 rfl) (by decide) (by decide))))
  (e_TokL
  (e_LokL (e_stL (er_iadd (x_dk dn_0_8_ok 0 rfl))))
  (e_LokL (Or.inr (Or.inr ⟨rfl, (x_dk dn_0_8_ok 1 rfl)⟩)))))
  (e_TokL
  (e_LokL (e_caL (q' := n_357) rfl (xr_callV (q' := n_357) (ix := 104) (n := 1) (in_t11 (List.mem_of_getElem? (i := 205) rfl) rfl) good_w (in_t1 (List.mem_of_getElem? (i := 14) rfl) rfl) (in_t11 (List.mem_of_getElem? (i := 202) rfl) rfl) (in_t11 (List.mem_of_getElem? (i := 203) rfl) rfl) (in_t11 (List.mem_of_getElem? (i := 204) rfl) rfl) (by decide +kernel) (by decide +kernel) (by decide +kernel) (x_dk dn_0_8_ok 2 rfl))))
  (e_TokL
  (e_LokL (e_stL (er_pop (x_dk dn_0_8_ok 3 rfl))))
  (e_LokL (e_stL (er_goto (off := 954) (tg := 2142) (x_dk dn_0_8_ok 4 rfl) (by decide)))))))
  (e_TokL
  (e_TokL
  (e_LokL (e_stL (er_aload_n (i := 1) (x_dk dn_0_8_ok 5 rfl))))
  (e_TokL
  (e_LokL (e_stL (er_aload_n (i := 0) (x_dk dn_0_8_ok 6 rfl))))
  (e_LokL (e_stL (er_iload_n (i := 3) (x_dk dn_0_8_ok 7 rfl))))))
  (e_TokL
  (e_LokL (e_stL (er_iconst (n := 1) (z := 1) (v := 1) (x_dk dn_0_8_ok 8 rfl) (by decide) (by decide))))
  (e_TokL
  (e_LokL (e_stL (er_iadd (x_dk dn_0_8_ok 9 rfl))))
  (e_LokL (Or.inr (Or.inr ⟨rfl, (x_dk dn_0_8_ok 10 rfl)⟩)))))))
  (e_TokL
  (e_TokL
  (e_TokL
  (e_LokL (e_caL (q' := n_211) rfl (xr_callV (q' := n_211) (ix := 105) (n := 1) (in_t6 (List.mem_of_getElem? (i := 166) rfl) rfl) good_w (in_t1 (List.mem_of_getElem? (i := 1) rfl) rfl) (in_t6 (List.mem_of_getElem? (i := 163) rfl) rfl) (in_t6 (List.mem_of_getElem? (i := 164) rfl) rfl) (in_t6 (List.mem_of_getElem? (i := 165) rfl) rfl) (by decide +kernel) (by decide +kernel) (by decide +kernel) (x_dk dn_0_8_ok 11 rfl))))
  (e_TokL
  (e_LokL (e_stL (er_pop (x_dk dn_0_8_ok 12 rfl))))
  (e_LokL (e_stL (er_aload_n (i := 2) (x_dk dn_0_8_ok 13 rfl))))))
  (e_TokL
  (e_LokL (e_stL (er_aload_n (i := 0) (x_dk dn_0_8_ok 14 rfl))))
  (e_TokL
  (e_LokL (e_stL (er_iload_n (i := 3) (x_dk dn_0_8_ok 15 rfl))))
  (e_LokL (e_stL (er_iconst (n := 1) (z := 1) (v := 1) (x_dk dn_0_8_ok 16 rfl) (by decide) (by decide)))))))
  (e_TokL
  (e_TokL
  (e_LokL (e_stL (er_iadd (x_dk dn_0_8_ok 17 rfl))))
  (e_TokL
  (e_LokL (Or.inr (Or.inr ⟨rfl, (x_dk dn_0_8_ok 18 rfl)⟩)))
  (e_LokL (e_caL (q' := n_358) rfl (xr_callV (q' := n_358) (ix := 108) (n := 1) (in_t12 (List.mem_of_getElem? (i := 112) rfl) rfl) good_w (in_t1 (List.mem_of_getElem? (i := 14) rfl) rfl) (in_t12 (List.mem_of_getElem? (i := 109) rfl) rfl) (in_t12 (List.mem_of_getElem? (i := 110) rfl) rfl) (in_t12 (List.mem_of_getElem? (i := 111) rfl) rfl) (by decide +kernel) (by decide +kernel) (by decide +kernel) (x_dk dn_0_8_ok 19 rfl))))))
  (e_TokL
  (e_LokL (e_stL (er_pop (x_dk dn_0_8_ok 20 rfl))))
  (e_TokL
  (e_LokL (e_stL (er_goto (off := 931) (tg := 2142) (x_dk dn_0_8_ok 21 rfl) (by decide))))
  (e_LokL (e_stL (er_aload_n (i := 1) (x_dk dn_0_8_ok 22 rfl)))))))))
def te_0_823 (L : Nat) (xs : Nat → Int32) : Nat → eE := (e_T 1232 (e_T 1224 (e_T 1219 (e_T 1215 (e_L 1215 (2, e_nof, 212, 1)) (e_T 1218 (e_L 1218 (0, ei_stk ef_pop 1219, 0, 0)) (e_L 1219 (0, ei_load 2 2 1220, 0, 0)))) (e_T 1220 (e_L 1220 (2, e_nof, 296, 1)) (e_T 1223 (e_L 1223 (0, ei_stk ef_pop 1224, 0, 0)) (e_L 1224 (0, ei_goto 2142, 0, 0))))) (e_T 1229 (e_T 1227 (e_L 1227 (0, ei_load 1 2 1228, 0, 0)) (e_T 1228 (e_L 1228 (0, ei_load 0 2 1229, 0, 0)) (e_L 1229 (0, ei_load 3 0 1230, 0, 0)))) (e_T 1230 (e_L 1230 (0, ei_push (0, 1) 1231, 0, 0)) (e_T 1231 (e_L 1231 (0, ei_bin eF_add 1232, 0, 0)) (e_L 1232 (0, e_S (g_scd L xs 1233), 0, 0)))))) (e_T 1238 (e_T 1235 (e_T 1233 (e_L 1233 (0, ei_load 0 2 1234, 0, 0)) (e_T 1234 (e_L 1234 (0, ei_load 3 0 1235, 0, 0)) (e_L 1235 (0, ei_push (0, 2) 1236, 0, 0)))) (e_T 1236 (e_L 1236 (0, ei_bin eF_add 1237, 0, 0)) (e_T 1237 (e_L 1237 (0, e_S (g_scd L xs 1238), 0, 0)) (e_L 1238 (2, e_nof, 213, 3))))) (e_T 1243 (e_T 1241 (e_L 1241 (0, ei_stk ef_pop 1242, 0, 0)) (e_T 1242 (e_L 1242 (0, ei_load 2 2 1243, 0, 0)) (e_L 1243 (0, ei_load 0 2 1244, 0, 0)))) (e_T 1244 (e_L 1244 (0, ei_load 3 0 1245, 0, 0)) (e_T 1245 (e_L 1245 (0, ei_push (0, 1) 1246, 0, 0)) (e_L 1246 (0, ei_bin eF_add 1247, 0, 0)))))))
set_option maxRecDepth 20000 in
set_option maxHeartbeats 4000000 in
theorem te_0_823_ok (L : Nat) (xs : Nat → Int32) : ∀ pc, e_EOl L xs pc (te_0_823 L xs pc) :=
  (e_TokL
  (e_TokL
  (e_TokL
  (e_TokL
  (e_LokL (e_caL (q' := n_212) rfl (xr_callV (q' := n_212) (ix := 109) (n := 0) (in_t6 (List.mem_of_getElem? (i := 170) rfl) rfl) good_w (in_t1 (List.mem_of_getElem? (i := 1) rfl) rfl) (in_t6 (List.mem_of_getElem? (i := 167) rfl) rfl) (in_t6 (List.mem_of_getElem? (i := 168) rfl) rfl) (in_t6 (List.mem_of_getElem? (i := 169) rfl) rfl) (by decide +kernel) (by decide +kernel) (by decide +kernel) (x_dk dn_0_8_ok 23 rfl))))
  (e_TokL
  (e_LokL (e_stL (er_pop (x_dk dn_0_8_ok 24 rfl))))
  (e_LokL (e_stL (er_aload_n (i := 2) (x_dk dn_0_8_ok 25 rfl))))))
  (e_TokL
  (e_LokL (e_caL (q' := n_296) rfl (xr_callV (q' := n_296) (ix := 112) (n := 0) (in_t11 (List.mem_of_getElem? (i := 128) rfl) rfl) good_w (in_t1 (List.mem_of_getElem? (i := 14) rfl) rfl) (in_t11 (List.mem_of_getElem? (i := 125) rfl) rfl) (in_t11 (List.mem_of_getElem? (i := 126) rfl) rfl) (in_t11 (List.mem_of_getElem? (i := 127) rfl) rfl) (by decide +kernel) (by decide +kernel) (by decide +kernel) (x_dk dn_0_8_ok 26 rfl))))
  (e_TokL
  (e_LokL (e_stL (er_pop (x_dk dn_0_8_ok 27 rfl))))
  (e_LokL (e_stL (er_goto (off := 918) (tg := 2142) (x_dk dn_0_8_ok 28 rfl) (by decide)))))))
  (e_TokL
  (e_TokL
  (e_LokL (e_stL (er_aload_n (i := 1) (x_dk dn_0_8_ok 29 rfl))))
  (e_TokL
  (e_LokL (e_stL (er_aload_n (i := 0) (x_dk dn_0_8_ok 30 rfl))))
  (e_LokL (e_stL (er_iload_n (i := 3) (x_dk dn_0_8_ok 31 rfl))))))
  (e_TokL
  (e_LokL (e_stL (er_iconst (n := 1) (z := 1) (v := 1) (x_dk dn_0_8_ok 32 rfl) (by decide) (by decide))))
  (e_TokL
  (e_LokL (e_stL (er_iadd (x_dk dn_0_8_ok 33 rfl))))
  (e_LokL (Or.inr (Or.inr ⟨rfl, (x_dk dn_0_8_ok 34 rfl)⟩)))))))
  (e_TokL
  (e_TokL
  (e_TokL
  (e_LokL (e_stL (er_aload_n (i := 0) (x_dk dn_0_8_ok 35 rfl))))
  (e_TokL
  (e_LokL (e_stL (er_iload_n (i := 3) (x_dk dn_0_8_ok 36 rfl))))
  (e_LokL (e_stL (er_iconst (n := 2) (z := 2) (v := 2) (x_dk dn_0_8_ok 37 rfl) (by decide) (by decide))))))
  (e_TokL
  (e_LokL (e_stL (er_iadd (x_dk dn_0_8_ok 38 rfl))))
  (e_TokL
  (e_LokL (Or.inr (Or.inr ⟨rfl, (x_dk dn_0_8_ok 39 rfl)⟩)))
  (e_LokL (e_caL (q' := n_213) rfl (xr_callV (q' := n_213) (ix := 113) (n := 2) (in_t6 (List.mem_of_getElem? (i := 174) rfl) rfl) good_w (in_t1 (List.mem_of_getElem? (i := 1) rfl) rfl) (in_t6 (List.mem_of_getElem? (i := 171) rfl) rfl) (in_t6 (List.mem_of_getElem? (i := 172) rfl) rfl) (in_t6 (List.mem_of_getElem? (i := 173) rfl) rfl) (by decide +kernel) (by decide +kernel) (by decide +kernel) (x_dk dn_0_8_ok 40 rfl)))))))
  (e_TokL
  (e_TokL
  (e_LokL (e_stL (er_pop (x_dk dn_0_8_ok 41 rfl))))
  (e_TokL
  (e_LokL (e_stL (er_aload_n (i := 2) (x_dk dn_0_8_ok 42 rfl))))
  (e_LokL (e_stL (er_aload_n (i := 0) (x_dk dn_0_8_ok 43 rfl))))))
  (e_TokL
  (e_LokL (e_stL (er_iload_n (i := 3) (x_dk dn_0_8_ok 44 rfl))))
  (e_TokL
  (e_LokL (e_stL (er_iconst (n := 1) (z := 1) (v := 1) (x_dk dn_0_8_ok 45 rfl) (by decide) (by decide))))
  (e_LokL (e_stL (er_iadd (x_dk dn_0_8_ok 46 rfl)))))))))
def te_0_847 (L : Nat) (xs : Nat → Int32) : Nat → eE := (e_T 1262 (e_T 1252 (e_T 1249 (e_T 1247 (e_L 1247 (0, e_S (g_scd L xs 1248), 0, 0)) (e_T 1248 (e_L 1248 (0, ei_load 0 2 1249, 0, 0)) (e_L 1249 (0, ei_load 3 0 1250, 0, 0)))) (e_T 1250 (e_L 1250 (0, ei_push (0, 2) 1251, 0, 0)) (e_T 1251 (e_L 1251 (0, ei_bin eF_add 1252, 0, 0)) (e_L 1252 (0, e_S (g_scd L xs 1253), 0, 0))))) (e_T 1257 (e_T 1253 (e_L 1253 (2, e_nof, 425, 3)) (e_T 1256 (e_L 1256 (0, ei_stk ef_pop 1257, 0, 0)) (e_L 1257 (0, ei_goto 2142, 0, 0)))) (e_T 1260 (e_L 1260 (0, ei_load 1 2 1261, 0, 0)) (e_T 1261 (e_L 1261 (0, ei_load 0 2 1262, 0, 0)) (e_L 1262 (0, ei_load 3 0 1263, 0, 0)))))) (e_T 1270 (e_T 1265 (e_T 1263 (e_L 1263 (0, ei_push (0, 1) 1264, 0, 0)) (e_T 1264 (e_L 1264 (0, ei_bin eF_add 1265, 0, 0)) (e_L 1265 (0, e_S (g_scd L xs 1266), 0, 0)))) (e_T 1266 (e_L 1266 (2, e_nof, 214, 2)) (e_T 1269 (e_L 1269 (0, ei_stk ef_pop 1270, 0, 0)) (e_L 1270 (0, ei_load 2 2 1271, 0, 0))))) (e_T 1273 (e_T 1271 (e_L 1271 (0, ei_load 0 2 1272, 0, 0)) (e_T 1272 (e_L 1272 (0, ei_load 3 0 1273, 0, 0)) (e_L 1273 (0, ei_push (0, 1) 1274, 0, 0)))) (e_T 1274 (e_L 1274 (0, ei_bin eF_add 1275, 0, 0)) (e_T 1275 (e_L 1275 (0, e_S (g_scd L xs 1276), 0, 0)) (e_L 1276 (2, e_nof, 426, 2)))))))
set_option maxRecDepth 20000 in
set_option maxHeartbeats 4000000 in
theorem te_0_847_ok (L : Nat) (xs : Nat → Int32) : ∀ pc, e_EOl L xs pc (te_0_847 L xs pc) :=
  (e_TokL
  (e_TokL
  (e_TokL
  (e_TokL
  (e_LokL (Or.inr (Or.inr ⟨rfl, (x_dk dn_0_8_ok 47 rfl)⟩)))
  (e_TokL
  (e_LokL (e_stL (er_aload_n (i := 0) (x_dk dn_0_8_ok 48 rfl))))
  (e_LokL (e_stL (er_iload_n (i := 3) (x_dk dn_0_8_ok 49 rfl))))))
  (e_TokL
  (e_LokL (e_stL (er_iconst (n := 2) (z := 2) (v := 2) (x_dk dn_0_8_ok 50 rfl) (by decide) (by decide))))
  (e_TokL
  (e_LokL (e_stL (er_iadd (x_dk dn_0_8_ok 51 rfl))))
  (e_LokL (Or.inr (Or.inr ⟨rfl, (x_dk dn_0_8_ok 52 rfl)⟩))))))
  (e_TokL
  (e_TokL
  (e_LokL (e_caL (q' := n_425) rfl (xr_callV (q' := n_425) (ix := 116) (n := 2) (in_t12 (List.mem_of_getElem? (i := 189) rfl) rfl) good_w (in_t1 (List.mem_of_getElem? (i := 14) rfl) rfl) (in_t12 (List.mem_of_getElem? (i := 186) rfl) rfl) (in_t12 (List.mem_of_getElem? (i := 187) rfl) rfl) (in_t12 (List.mem_of_getElem? (i := 188) rfl) rfl) (by decide +kernel) (by decide +kernel) (by decide +kernel) (x_dk dn_0_8_ok 53 rfl))))
  (e_TokL
  (e_LokL (e_stL (er_pop (x_dk dn_0_8_ok 54 rfl))))
  (e_LokL (e_stL (er_goto (off := 885) (tg := 2142) (x_dk dn_0_8_ok 55 rfl) (by decide))))))
  (e_TokL
  (e_LokL (e_stL (er_aload_n (i := 1) (x_dk dn_0_8_ok 56 rfl))))
  (e_TokL
  (e_LokL (e_stL (er_aload_n (i := 0) (x_dk dn_0_8_ok 57 rfl))))
  (e_LokL (e_stL (er_iload_n (i := 3) (x_dk dn_0_8_ok 58 rfl))))))))
  (e_TokL
  (e_TokL
  (e_TokL
  (e_LokL (e_stL (er_iconst (n := 1) (z := 1) (v := 1) (x_dk dn_0_8_ok 59 rfl) (by decide) (by decide))))
  (e_TokL
  (e_LokL (e_stL (er_iadd (x_dk dn_0_8_ok 60 rfl))))
  (e_LokL (Or.inr (Or.inr ⟨rfl, (x_dk dn_0_8_ok 61 rfl)⟩)))))
  (e_TokL
  (e_LokL (e_caL (q' := n_214) rfl (xr_callV (q' := n_214) (ix := 117) (n := 1) (in_t7 (List.mem_of_getElem? (i := 45) rfl) rfl) good_w (in_t1 (List.mem_of_getElem? (i := 1) rfl) rfl) (in_t7 (List.mem_of_getElem? (i := 42) rfl) rfl) (in_t7 (List.mem_of_getElem? (i := 43) rfl) rfl) (in_t7 (List.mem_of_getElem? (i := 44) rfl) rfl) (by decide +kernel) (by decide +kernel) (by decide +kernel) (x_dk dn_0_8_ok 62 rfl))))
  (e_TokL
  (e_LokL (e_stL (er_pop (x_dk dn_0_8_ok 63 rfl))))
  (e_LokL (e_stL (er_aload_n (i := 2) (x_dk dn_0_8_ok 64 rfl)))))))
  (e_TokL
  (e_TokL
  (e_LokL (e_stL (er_aload_n (i := 0) (x_dk dn_0_8_ok 65 rfl))))
  (e_TokL
  (e_LokL (e_stL (er_iload_n (i := 3) (x_dk dn_0_8_ok 66 rfl))))
  (e_LokL (e_stL (er_iconst (n := 1) (z := 1) (v := 1) (x_dk dn_0_8_ok 67 rfl) (by decide) (by decide))))))
  (e_TokL
  (e_LokL (e_stL (er_iadd (x_dk dn_0_8_ok 68 rfl))))
  (e_TokL
  (e_LokL (Or.inr (Or.inr ⟨rfl, (x_dk dn_0_8_ok 69 rfl)⟩)))
  (e_LokL (e_caL (q' := n_426) rfl (xr_callV (q' := n_426) (ix := 120) (n := 1) (in_t12 (List.mem_of_getElem? (i := 197) rfl) rfl) good_w (in_t1 (List.mem_of_getElem? (i := 14) rfl) rfl) (in_t12 (List.mem_of_getElem? (i := 194) rfl) rfl) (in_t12 (List.mem_of_getElem? (i := 195) rfl) rfl) (in_t12 (List.mem_of_getElem? (i := 196) rfl) rfl) (by decide +kernel) (by decide +kernel) (by decide +kernel) (x_dk dn_0_8_ok 70 rfl)))))))))
def te_0_871 (L : Nat) (xs : Nat → Int32) : Nat → eE := (e_T 1292 (e_T 1286 (e_T 1283 (e_T 1279 (e_L 1279 (0, ei_stk ef_pop 1280, 0, 0)) (e_T 1280 (e_L 1280 (0, ei_goto 2142, 0, 0)) (e_L 1283 (0, ei_load 1 2 1284, 0, 0)))) (e_T 1284 (e_L 1284 (0, ei_load 0 2 1285, 0, 0)) (e_T 1285 (e_L 1285 (0, ei_load 3 0 1286, 0, 0)) (e_L 1286 (0, ei_push (0, 1) 1287, 0, 0))))) (e_T 1289 (e_T 1287 (e_L 1287 (0, ei_bin eF_add 1288, 0, 0)) (e_T 1288 (e_L 1288 (0, e_S (g_scd L xs 1289), 0, 0)) (e_L 1289 (0, ei_load 0 2 1290, 0, 0)))) (e_T 1290 (e_L 1290 (0, ei_load 3 0 1291, 0, 0)) (e_T 1291 (e_L 1291 (0, ei_push (0, 2) 1292, 0, 0)) (e_L 1292 (0, ei_bin eF_add 1293, 0, 0)))))) (e_T 1300 (e_T 1297 (e_T 1293 (e_L 1293 (0, e_S (g_scd L xs 1294), 0, 0)) (e_T 1294 (e_L 1294 (2, e_nof, 215, 3)) (e_L 1297 (0, ei_stk ef_pop 1298, 0, 0)))) (e_T 1298 (e_L 1298 (0, ei_load 2 2 1299, 0, 0)) (e_T 1299 (e_L 1299 (0, ei_load 0 2 1300, 0, 0)) (e_L 1300 (0, ei_load 3 0 1301, 0, 0))))) (e_T 1303 (e_T 1301 (e_L 1301 (0, ei_push (0, 1) 1302, 0, 0)) (e_T 1302 (e_L 1302 (0, ei_bin eF_add 1303, 0, 0)) (e_L 1303 (0, e_S (g_scd L xs 1304), 0, 0)))) (e_T 1304 (e_L 1304 (0, ei_load 0 2 1305, 0, 0)) (e_T 1305 (e_L 1305 (0, ei_load 3 0 1306, 0, 0)) (e_L 1306 (0, ei_push (0, 2) 1307, 0, 0)))))))
set_option maxRecDepth 20000 in
set_option maxHeartbeats 4000000 in
theorem te_0_871_ok (L : Nat) (xs : Nat → Int32) : ∀ pc, e_EOl L xs pc (te_0_871 L xs pc) :=
  (e_TokL
  (e_TokL
  (e_TokL
  (e_TokL
  (e_LokL (e_stL (er_pop (x_dk dn_0_8_ok 71 rfl))))
  (e_TokL
  (e_LokL (e_stL (er_goto (off := 862) (tg := 2142) (x_dk dn_0_8_ok 72 rfl) (by decide))))
  (e_LokL (e_stL (er_aload_n (i := 1) (x_dk dn_0_8_ok 73 rfl))))))
  (e_TokL
  (e_LokL (e_stL (er_aload_n (i := 0) (x_dk dn_0_8_ok 74 rfl))))
  (e_TokL
  (e_LokL (e_stL (er_iload_n (i := 3) (x_dk dn_0_8_ok 75 rfl))))
  (e_LokL (e_stL (er_iconst (n := 1) (z := 1) (v := 1) (x_dk dn_0_8_ok 76 rfl) (by decide) (by decide)))))))
  (e_TokL
  (e_TokL
  (e_LokL (e_stL (er_iadd (x_dk dn_0_8_ok 77 rfl))))
  (e_TokL
  (e_LokL (Or.inr (Or.inr ⟨rfl, (x_dk dn_0_8_ok 78 rfl)⟩)))
  (e_LokL (e_stL (er_aload_n (i := 0) (x_dk dn_0_8_ok 79 rfl))))))
  (e_TokL
  (e_LokL (e_stL (er_iload_n (i := 3) (x_dk dn_0_8_ok 80 rfl))))
  (e_TokL
  (e_LokL (e_stL (er_iconst (n := 2) (z := 2) (v := 2) (x_dk dn_0_8_ok 81 rfl) (by decide) (by decide))))
  (e_LokL (e_stL (er_iadd (x_dk dn_0_8_ok 82 rfl))))))))
  (e_TokL
  (e_TokL
  (e_TokL
  (e_LokL (Or.inr (Or.inr ⟨rfl, (x_dk dn_0_8_ok 83 rfl)⟩)))
  (e_TokL
  (e_LokL (e_caL (q' := n_215) rfl (xr_callV (q' := n_215) (ix := 121) (n := 2) (in_t8 (List.mem_of_getElem? (i := 158) rfl) rfl) good_w (in_t1 (List.mem_of_getElem? (i := 1) rfl) rfl) (in_t8 (List.mem_of_getElem? (i := 155) rfl) rfl) (in_t8 (List.mem_of_getElem? (i := 156) rfl) rfl) (in_t8 (List.mem_of_getElem? (i := 157) rfl) rfl) (by decide +kernel) (by decide +kernel) (by decide +kernel) (x_dk dn_0_8_ok 84 rfl))))
  (e_LokL (e_stL (er_pop (x_dk dn_0_8_ok 85 rfl))))))
  (e_TokL
  (e_LokL (e_stL (er_aload_n (i := 2) (x_dk dn_0_8_ok 86 rfl))))
  (e_TokL
  (e_LokL (e_stL (er_aload_n (i := 0) (x_dk dn_0_8_ok 87 rfl))))
  (e_LokL (e_stL (er_iload_n (i := 3) (x_dk dn_0_8_ok 88 rfl)))))))
  (e_TokL
  (e_TokL
  (e_LokL (e_stL (er_iconst (n := 1) (z := 1) (v := 1) (x_dk dn_0_8_ok 89 rfl) (by decide) (by decide))))
  (e_TokL
  (e_LokL (e_stL (er_iadd (x_dk dn_0_8_ok 90 rfl))))
  (e_LokL (Or.inr (Or.inr ⟨rfl, (x_dk dn_0_8_ok 91 rfl)⟩)))))
  (e_TokL
  (e_LokL (e_stL (er_aload_n (i := 0) (x_dk dn_0_8_ok 92 rfl))))
  (e_TokL
  (e_LokL (e_stL (er_iload_n (i := 3) (x_dk dn_0_8_ok 93 rfl))))
  (e_LokL (e_stL (er_iconst (n := 2) (z := 2) (v := 2) (x_dk dn_0_8_ok 94 rfl) (by decide) (by decide)))))))))
def te_0_895 (L : Nat) (xs : Nat → Int32) : Nat → eE := (e_T 1322 (e_T 1316 (e_T 1309 (e_T 1307 (e_L 1307 (0, ei_bin eF_add 1308, 0, 0)) (e_T 1308 (e_L 1308 (0, e_S (g_scd L xs 1309), 0, 0)) (e_L 1309 (2, e_nof, 427, 3)))) (e_T 1312 (e_L 1312 (0, ei_stk ef_pop 1313, 0, 0)) (e_T 1313 (e_L 1313 (0, ei_goto 2142, 0, 0)) (e_L 1316 (0, ei_load 1 2 1317, 0, 0))))) (e_T 1319 (e_T 1317 (e_L 1317 (0, ei_load 0 2 1318, 0, 0)) (e_T 1318 (e_L 1318 (0, ei_load 3 0 1319, 0, 0)) (e_L 1319 (0, ei_push (0, 1) 1320, 0, 0)))) (e_T 1320 (e_L 1320 (0, ei_bin eF_add 1321, 0, 0)) (e_T 1321 (e_L 1321 (0, e_S (g_scd L xs 1322), 0, 0)) (e_L 1322 (0, ei_load 0 2 1323, 0, 0)))))) (e_T 1328 (e_T 1325 (e_T 1323 (e_L 1323 (0, ei_load 3 0 1324, 0, 0)) (e_T 1324 (e_L 1324 (0, ei_push (0, 2) 1325, 0, 0)) (e_L 1325 (0, ei_bin eF_add 1326, 0, 0)))) (e_T 1326 (e_L 1326 (0, e_S (g_scd L xs 1327), 0, 0)) (e_T 1327 (e_L 1327 (0, ei_load 0 2 1328, 0, 0)) (e_L 1328 (0, ei_load 3 0 1329, 0, 0))))) (e_T 1331 (e_T 1329 (e_L 1329 (0, ei_push (0, 3) 1330, 0, 0)) (e_T 1330 (e_L 1330 (0, ei_bin eF_add 1331, 0, 0)) (e_L 1331 (0, e_S (g_scd L xs 1332), 0, 0)))) (e_T 1332 (e_L 1332 (0, ei_if1 0 1339 1335, 0, 0)) (e_T 1335 (e_L 1335 (0, ei_push (0, 1) 1336, 0, 0)) (e_L 1336 (0, ei_goto 1340, 0, 0)))))))
set_option maxRecDepth 20000 in
set_option maxHeartbeats 4000000 in
theorem te_0_895_ok (L : Nat) (xs : Nat → Int32) : ∀ pc, e_EOl L xs pc (te_0_895 L xs pc) :=
  (e_TokL
  (e_TokL
  (e_TokL
  (e_TokL
  (e_LokL (e_stL (er_iadd (x_dk dn_0_8_ok 95 rfl))))
  (e_TokL
  (e_LokL (Or.inr (Or.inr ⟨rfl, (x_dk dn_0_8_ok 96 rfl)⟩)))
  (e_LokL (e_caL (q' := n_427) rfl (xr_callV (q' := n_427) (ix := 124) (n := 2) (in_t13 (List.mem_of_getElem? (i := 150) rfl) rfl) good_w (in_t1 (List.mem_of_getElem? (i := 14) rfl) rfl) (in_t13 (List.mem_of_getElem? (i := 147) rfl) rfl) (in_t13 (List.mem_of_getElem? (i := 148) rfl) rfl) (in_t13 (List.mem_of_getElem? (i := 149) rfl) rfl) (by decide +kernel) (by decide +kernel) (by decide +kernel) (x_dk dn_0_8_ok 97 rfl))))))
  (e_TokL
  (e_LokL (e_stL (er_pop (x_dk dn_0_8_ok 98 rfl))))
  (e_TokL
  (e_LokL (e_stL (er_goto (off := 829) (tg := 2142) (x_dk dn_0_8_ok 99 rfl) (by decide))))
  (e_LokL (e_stL (er_aload_n (i := 1) (x_dk dn_0_9_ok 0 rfl)))))))
  (e_TokL
  (e_TokL
  (e_LokL (e_stL (er_aload_n (i := 0) (x_dk dn_0_9_ok 1 rfl))))
  (e_TokL
  (e_LokL (e_stL (er_iload_n (i := 3) (x_dk dn_0_9_ok 2 rfl))))
  (e_LokL (e_stL (er_iconst (n := 1) (z := 1) (v := 1) (x_dk dn_0_9_ok 3 rfl) (by decide) (by decide))))))
  (e_TokL
  (e_LokL (e_stL (er_iadd (x_dk dn_0_9_ok 4 rfl))))
  (e_TokL
  (e_LokL (Or.inr (Or.inr ⟨rfl, (x_dk dn_0_9_ok 5 rfl)⟩)))
  (e_LokL (e_stL (er_aload_n (i := 0) (x_dk dn_0_9_ok 6 rfl))))))))
  (e_TokL
  (e_TokL
  (e_TokL
  (e_LokL (e_stL (er_iload_n (i := 3) (x_dk dn_0_9_ok 7 rfl))))
  (e_TokL
  (e_LokL (e_stL (er_iconst (n := 2) (z := 2) (v := 2) (x_dk dn_0_9_ok 8 rfl) (by decide) (by decide))))
  (e_LokL (e_stL (er_iadd (x_dk dn_0_9_ok 9 rfl))))))
  (e_TokL
  (e_LokL (Or.inr (Or.inr ⟨rfl, (x_dk dn_0_9_ok 10 rfl)⟩)))
  (e_TokL
  (e_LokL (e_stL (er_aload_n (i := 0) (x_dk dn_0_9_ok 11 rfl))))
  (e_LokL (e_stL (er_iload_n (i := 3) (x_dk dn_0_9_ok 12 rfl)))))))
  (e_TokL
  (e_TokL
  (e_LokL (e_stL (er_iconst (n := 3) (z := 3) (v := 3) (x_dk dn_0_9_ok 13 rfl) (by decide) (by decide))))
  (e_TokL
  (e_LokL (e_stL (er_iadd (x_dk dn_0_9_ok 14 rfl))))
  (e_LokL (Or.inr (Or.inr ⟨rfl, (x_dk dn_0_9_ok 15 rfl)⟩)))))
  (e_TokL
  (e_LokL (e_stL (er_ifeq (off := 7) (tg := 1339) (x_dk dn_0_9_ok 16 rfl) (by decide))))
  (e_TokL
  (e_LokL (e_stL (er_iconst (n := 1) (z := 1) (v := 1) (x_dk dn_0_9_ok 17 rfl) (by decide) (by decide))))
  (e_LokL (e_stL (er_goto (off := 4) (tg := 1340) (x_dk dn_0_9_ok 18 rfl) (by decide)))))))))
def te_0_919 (L : Nat) (xs : Nat → Int32) : Nat → eE := (e_T 1352 (e_T 1346 (e_T 1343 (e_T 1339 (e_L 1339 (0, ei_push (0, 0) 1340, 0, 0)) (e_T 1340 (e_L 1340 (2, e_nof, 216, 4)) (e_L 1343 (0, ei_stk ef_pop 1344, 0, 0)))) (e_T 1344 (e_L 1344 (0, ei_load 2 2 1345, 0, 0)) (e_T 1345 (e_L 1345 (0, ei_load 0 2 1346, 0, 0)) (e_L 1346 (0, ei_load 3 0 1347, 0, 0))))) (e_T 1349 (e_T 1347 (e_L 1347 (0, ei_push (0, 1) 1348, 0, 0)) (e_T 1348 (e_L 1348 (0, ei_bin eF_add 1349, 0, 0)) (e_L 1349 (0, e_S (g_scd L xs 1350), 0, 0)))) (e_T 1350 (e_L 1350 (0, ei_load 0 2 1351, 0, 0)) (e_T 1351 (e_L 1351 (0, ei_load 3 0 1352, 0, 0)) (e_L 1352 (0, ei_push (0, 2) 1353, 0, 0)))))) (e_T 1358 (e_T 1355 (e_T 1353 (e_L 1353 (0, ei_bin eF_add 1354, 0, 0)) (e_T 1354 (e_L 1354 (0, e_S (g_scd L xs 1355), 0, 0)) (e_L 1355 (0, ei_load 0 2 1356, 0, 0)))) (e_T 1356 (e_L 1356 (0, ei_load 3 0 1357, 0, 0)) (e_T 1357 (e_L 1357 (0, ei_push (0, 3) 1358, 0, 0)) (e_L 1358 (0, ei_bin eF_add 1359, 0, 0))))) (e_T 1363 (e_T 1359 (e_L 1359 (0, e_S (g_scd L xs 1360), 0, 0)) (e_T 1360 (e_L 1360 (0, ei_if1 0 1367 1363, 0, 0)) (e_L 1363 (0, ei_push (0, 1) 1364, 0, 0)))) (e_T 1364 (e_L 1364 (0, ei_goto 1368, 0, 0)) (e_T 1367 (e_L 1367 (0, ei_push (0, 0) 1368, 0, 0)) (e_L 1368 (2, e_nof, 428, 4)))))))
set_option maxRecDepth 20000 in
set_option maxHeartbeats 4000000 in
theorem te_0_919_ok (L : Nat) (xs : Nat → Int32) : ∀ pc, e_EOl L xs pc (te_0_919 L xs pc) :=
  (e_TokL
  (e_TokL
  (e_TokL
  (e_TokL
  (e_LokL (e_stL (er_iconst (n := 0) (z := 0) (v := 0) (x_dk dn_0_9_ok 19 rfl) (by decide) (by decide))))
  (e_TokL
  (e_LokL (e_caL (q' := n_216) rfl (xr_callV (q' := n_216) (ix := 125) (n := 3) (in_t8 (List.mem_of_getElem? (i := 162) rfl) rfl) good_w (in_t1 (List.mem_of_getElem? (i := 1) rfl) rfl) (in_t8 (List.mem_of_getElem? (i := 159) rfl) rfl) (in_t8 (List.mem_of_getElem? (i := 160) rfl) rfl) (in_t8 (List.mem_of_getElem? (i := 161) rfl) rfl) (by decide +kernel) (by decide +kernel) (by decide +kernel) (x_dk dn_0_9_ok 20 rfl))))
  (e_LokL (e_stL (er_pop (x_dk dn_0_9_ok 21 rfl))))))
  (e_TokL
  (e_LokL (e_stL (er_aload_n (i := 2) (x_dk dn_0_9_ok 22 rfl))))
  (e_TokL
  (e_LokL (e_stL (er_aload_n (i := 0) (x_dk dn_0_9_ok 23 rfl))))
  (e_LokL (e_stL (er_iload_n (i := 3) (x_dk dn_0_9_ok 24 rfl)))))))
  (e_TokL
  (e_TokL
  (e_LokL (e_stL (er_iconst (n := 1) (z := 1) (v := 1) (x_dk dn_0_9_ok 25 rfl) (by decide) (by decide))))
  (e_TokL
  (e_LokL (e_stL (er_iadd (x_dk dn_0_9_ok 26 rfl))))
  (e_LokL (Or.inr (Or.inr ⟨rfl, (x_dk dn_0_9_ok 27 rfl)⟩)))))
  (e_TokL
  (e_LokL (e_stL (er_aload_n (i := 0) (x_dk dn_0_9_ok 28 rfl))))
  (e_TokL
  (e_LokL (e_stL (er_iload_n (i := 3) (x_dk dn_0_9_ok 29 rfl))))
  (e_LokL (e_stL (er_iconst (n := 2) (z := 2) (v := 2) (x_dk dn_0_9_ok 30 rfl) (by decide) (by decide))))))))
  (e_TokL
  (e_TokL
  (e_TokL
  (e_LokL (e_stL (er_iadd (x_dk dn_0_9_ok 31 rfl))))
  (e_TokL
  (e_LokL (Or.inr (Or.inr ⟨rfl, (x_dk dn_0_9_ok 32 rfl)⟩)))
  (e_LokL (e_stL (er_aload_n (i := 0) (x_dk dn_0_9_ok 33 rfl))))))
  (e_TokL
  (e_LokL (e_stL (er_iload_n (i := 3) (x_dk dn_0_9_ok 34 rfl))))
  (e_TokL
  (e_LokL (e_stL (er_iconst (n := 3) (z := 3) (v := 3) (x_dk dn_0_9_ok 35 rfl) (by decide) (by decide))))
  (e_LokL (e_stL (er_iadd (x_dk dn_0_9_ok 36 rfl)))))))
  (e_TokL
  (e_TokL
  (e_LokL (Or.inr (Or.inr ⟨rfl, (x_dk dn_0_9_ok 37 rfl)⟩)))
  (e_TokL
  (e_LokL (e_stL (er_ifeq (off := 7) (tg := 1367) (x_dk dn_0_9_ok 38 rfl) (by decide))))
  (e_LokL (e_stL (er_iconst (n := 1) (z := 1) (v := 1) (x_dk dn_0_9_ok 39 rfl) (by decide) (by decide))))))
  (e_TokL
  (e_LokL (e_stL (er_goto (off := 4) (tg := 1368) (x_dk dn_0_9_ok 40 rfl) (by decide))))
  (e_TokL
  (e_LokL (e_stL (er_iconst (n := 0) (z := 0) (v := 0) (x_dk dn_0_9_ok 41 rfl) (by decide) (by decide))))
  (e_LokL (e_caL (q' := n_428) rfl (xr_callV (q' := n_428) (ix := 128) (n := 3) (in_t13 (List.mem_of_getElem? (i := 158) rfl) rfl) good_w (in_t1 (List.mem_of_getElem? (i := 14) rfl) rfl) (in_t13 (List.mem_of_getElem? (i := 155) rfl) rfl) (in_t13 (List.mem_of_getElem? (i := 156) rfl) rfl) (in_t13 (List.mem_of_getElem? (i := 157) rfl) rfl) (by decide +kernel) (by decide +kernel) (by decide +kernel) (x_dk dn_0_9_ok 42 rfl)))))))))
def te_0_943 (L : Nat) (xs : Nat → Int32) : Nat → eE := (e_T 1384 (e_T 1378 (e_T 1375 (e_T 1371 (e_L 1371 (0, ei_stk ef_pop 1372, 0, 0)) (e_T 1372 (e_L 1372 (0, ei_goto 2142, 0, 0)) (e_L 1375 (0, ei_load 1 2 1376, 0, 0)))) (e_T 1376 (e_L 1376 (0, ei_load 0 2 1377, 0, 0)) (e_T 1377 (e_L 1377 (0, ei_load 3 0 1378, 0, 0)) (e_L 1378 (0, ei_push (0, 1) 1379, 0, 0))))) (e_T 1381 (e_T 1379 (e_L 1379 (0, ei_bin eF_add 1380, 0, 0)) (e_T 1380 (e_L 1380 (0, e_S (g_scd L xs 1381), 0, 0)) (e_L 1381 (0, ei_load 0 2 1382, 0, 0)))) (e_T 1382 (e_L 1382 (0, ei_load 3 0 1383, 0, 0)) (e_T 1383 (e_L 1383 (0, ei_push (0, 2) 1384, 0, 0)) (e_L 1384 (0, ei_bin eF_add 1385, 0, 0)))))) (e_T 1394 (e_T 1389 (e_T 1385 (e_L 1385 (0, e_S (g_scd L xs 1386), 0, 0)) (e_T 1386 (e_L 1386 (0, ei_if1 0 1393 1389, 0, 0)) (e_L 1389 (0, ei_push (0, 1) 1390, 0, 0)))) (e_T 1390 (e_L 1390 (0, ei_goto 1394, 0, 0)) (e_T 1393 (e_L 1393 (0, ei_push (0, 0) 1394, 0, 0)) (e_L 1394 (0, ei_load 0 2 1395, 0, 0))))) (e_T 1397 (e_T 1395 (e_L 1395 (0, ei_load 3 0 1396, 0, 0)) (e_T 1396 (e_L 1396 (0, ei_push (0, 3) 1397, 0, 0)) (e_L 1397 (0, ei_bin eF_add 1398, 0, 0)))) (e_T 1399 (e_T 1398 (e_L 1398 (0, e_S (g_scd L xs 1399), 0, 0)) (e_L 1399 (0, ei_if1 0 1406 1402, 0, 0))) (e_T 1402 (e_L 1402 (0, ei_push (0, 1) 1403, 0, 0)) (e_L 1403 (0, ei_goto 1407, 0, 0)))))))
set_option maxRecDepth 20000 in
set_option maxHeartbeats 4000000 in
theorem te_0_943_ok (L : Nat) (xs : Nat → Int32) : ∀ pc, e_EOl L xs pc (te_0_943 L xs pc) :=
  (e_TokL
  (e_TokL
  (e_TokL
  (e_TokL
  (e_LokL (e_stL (er_pop (x_dk dn_0_9_ok 43 rfl))))
  (e_TokL
  (e_LokL (e_stL (er_goto (off := 770) (tg := 2142) (x_dk dn_0_9_ok 44 rfl) (by decide))))
  (e_LokL (e_stL (er_aload_n (i := 1) (x_dk dn_0_9_ok 45 rfl))))))
  (e_TokL
  (e_LokL (e_stL (er_aload_n (i := 0) (x_dk dn_0_9_ok 46 rfl))))
  (e_TokL
  (e_LokL (e_stL (er_iload_n (i := 3) (x_dk dn_0_9_ok 47 rfl))))
  (e_LokL (e_stL (er_iconst (n := 1) (z := 1) (v := 1) (x_dk dn_0_9_ok 48 rfl) (by decide) (by decide)))))))
  (e_TokL
  (e_TokL
  (e_LokL (e_stL (er_iadd (x_dk dn_0_9_ok 49 rfl))))
  (e_TokL
  (e_LokL (Or.inr (Or.inr ⟨rfl, (x_dk dn_0_9_ok 50 rfl)⟩)))
  (e_LokL (e_stL (er_aload_n (i := 0) (x_dk dn_0_9_ok 51 rfl))))))
  (e_TokL
  (e_LokL (e_stL (er_iload_n (i := 3) (x_dk dn_0_9_ok 52 rfl))))
  (e_TokL
  (e_LokL (e_stL (er_iconst (n := 2) (z := 2) (v := 2) (x_dk dn_0_9_ok 53 rfl) (by decide) (by decide))))
  (e_LokL (e_stL (er_iadd (x_dk dn_0_9_ok 54 rfl))))))))
  (e_TokL
  (e_TokL
  (e_TokL
  (e_LokL (Or.inr (Or.inr ⟨rfl, (x_dk dn_0_9_ok 55 rfl)⟩)))
  (e_TokL
  (e_LokL (e_stL (er_ifeq (off := 7) (tg := 1393) (x_dk dn_0_9_ok 56 rfl) (by decide))))
  (e_LokL (e_stL (er_iconst (n := 1) (z := 1) (v := 1) (x_dk dn_0_9_ok 57 rfl) (by decide) (by decide))))))
  (e_TokL
  (e_LokL (e_stL (er_goto (off := 4) (tg := 1394) (x_dk dn_0_9_ok 58 rfl) (by decide))))
  (e_TokL
  (e_LokL (e_stL (er_iconst (n := 0) (z := 0) (v := 0) (x_dk dn_0_9_ok 59 rfl) (by decide) (by decide))))
  (e_LokL (e_stL (er_aload_n (i := 0) (x_dk dn_0_9_ok 60 rfl)))))))
  (e_TokL
  (e_TokL
  (e_LokL (e_stL (er_iload_n (i := 3) (x_dk dn_0_9_ok 61 rfl))))
  (e_TokL
  (e_LokL (e_stL (er_iconst (n := 3) (z := 3) (v := 3) (x_dk dn_0_9_ok 62 rfl) (by decide) (by decide))))
  (e_LokL (e_stL (er_iadd (x_dk dn_0_9_ok 63 rfl))))))
  (e_TokL
  (e_TokL
  (e_LokL (Or.inr (Or.inr ⟨rfl, (x_dk dn_0_9_ok 64 rfl)⟩)))
  (e_LokL (e_stL (er_ifeq (off := 7) (tg := 1406) (x_dk dn_0_9_ok 65 rfl) (by decide)))))
  (e_TokL
  (e_LokL (e_stL (er_iconst (n := 1) (z := 1) (v := 1) (x_dk dn_0_9_ok 66 rfl) (by decide) (by decide))))
  (e_LokL (e_stL (er_goto (off := 4) (tg := 1407) (x_dk dn_0_9_ok 67 rfl) (by decide)))))))))
def te_0_968 (L : Nat) (xs : Nat → Int32) : Nat → eE := (e_T 1419 (e_T 1413 (e_T 1410 (e_T 1406 (e_L 1406 (0, ei_push (0, 0) 1407, 0, 0)) (e_T 1407 (e_L 1407 (2, e_nof, 217, 4)) (e_L 1410 (0, ei_stk ef_pop 1411, 0, 0)))) (e_T 1411 (e_L 1411 (0, ei_load 2 2 1412, 0, 0)) (e_T 1412 (e_L 1412 (0, ei_load 0 2 1413, 0, 0)) (e_L 1413 (0, ei_load 3 0 1414, 0, 0))))) (e_T 1416 (e_T 1414 (e_L 1414 (0, ei_push (0, 1) 1415, 0, 0)) (e_T 1415 (e_L 1415 (0, ei_bin eF_add 1416, 0, 0)) (e_L 1416 (0, e_S (g_scd L xs 1417), 0, 0)))) (e_T 1417 (e_L 1417 (0, ei_load 0 2 1418, 0, 0)) (e_T 1418 (e_L 1418 (0, ei_load 3 0 1419, 0, 0)) (e_L 1419 (0, ei_push (0, 2) 1420, 0, 0)))))) (e_T 1429 (e_T 1422 (e_T 1420 (e_L 1420 (0, ei_bin eF_add 1421, 0, 0)) (e_T 1421 (e_L 1421 (0, e_S (g_scd L xs 1422), 0, 0)) (e_L 1422 (0, ei_if1 0 1429 1425, 0, 0)))) (e_T 1425 (e_L 1425 (0, ei_push (0, 1) 1426, 0, 0)) (e_T 1426 (e_L 1426 (0, ei_goto 1430, 0, 0)) (e_L 1429 (0, ei_push (0, 0) 1430, 0, 0))))) (e_T 1432 (e_T 1430 (e_L 1430 (0, ei_load 0 2 1431, 0, 0)) (e_T 1431 (e_L 1431 (0, ei_load 3 0 1432, 0, 0)) (e_L 1432 (0, ei_push (0, 3) 1433, 0, 0)))) (e_T 1433 (e_L 1433 (0, ei_bin eF_add 1434, 0, 0)) (e_T 1434 (e_L 1434 (0, e_S (g_scd L xs 1435), 0, 0)) (e_L 1435 (0, ei_if1 0 1442 1438, 0, 0)))))))
set_option maxRecDepth 20000 in
set_option maxHeartbeats 4000000 in
theorem te_0_968_ok (L : Nat) (xs : Nat → Int32) : ∀ pc, e_EOl L xs pc (te_0_968 L xs pc) :=
  (e_TokL
  (e_TokL
  (e_TokL
  (e_TokL
  (e_LokL (e_stL (er_iconst (n := 0) (z := 0) (v := 0) (x_dk dn_0_9_ok 68 rfl) (by decide) (by decide))))
  (e_TokL
  (e_LokL (e_caL (q' := n_217) rfl (xr_callV (q' := n_217) (ix := 129) (n := 3) (in_t8 (List.mem_of_getElem? (i := 166) rfl) rfl) good_w (in_t1 (List.mem_of_getElem? (i := 1) rfl) rfl) (in_t8 (List.mem_of_getElem? (i := 163) rfl) rfl) (in_t8 (List.mem_of_getElem? (i := 164) rfl) rfl) (in_t8 (List.mem_of_getElem? (i := 165) rfl) rfl) (by decide +kernel) (by decide +kernel) (by decide +kernel) (x_dk dn_0_9_ok 69 rfl))))
  (e_LokL (e_stL (er_pop (x_dk dn_0_9_ok 70 rfl))))))
  (e_TokL
  (e_LokL (e_stL (er_aload_n (i := 2) (x_dk dn_0_9_ok 71 rfl))))
  (e_TokL
  (e_LokL (e_stL (er_aload_n (i := 0) (x_dk dn_0_9_ok 72 rfl))))
  (e_LokL (e_stL (er_iload_n (i := 3) (x_dk dn_0_9_ok 73 rfl)))))))
  (e_TokL
  (e_TokL
  (e_LokL (e_stL (er_iconst (n := 1) (z := 1) (v := 1) (x_dk dn_0_9_ok 74 rfl) (by decide) (by decide))))
  (e_TokL
  (e_LokL (e_stL (er_iadd (x_dk dn_0_9_ok 75 rfl))))
  (e_LokL (Or.inr (Or.inr ⟨rfl, (x_dk dn_0_9_ok 76 rfl)⟩)))))
  (e_TokL
  (e_LokL (e_stL (er_aload_n (i := 0) (x_dk dn_0_9_ok 77 rfl))))
  (e_TokL
  (e_LokL (e_stL (er_iload_n (i := 3) (x_dk dn_0_9_ok 78 rfl))))
  (e_LokL (e_stL (er_iconst (n := 2) (z := 2) (v := 2) (x_dk dn_0_9_ok 79 rfl) (by decide) (by decide))))))))
  (e_TokL
  (e_TokL
  (e_TokL
  (e_LokL (e_stL (er_iadd (x_dk dn_0_9_ok 80 rfl))))
  (e_TokL
  (e_LokL (Or.inr (Or.inr ⟨rfl, (x_dk dn_0_9_ok 81 rfl)⟩)))
  (e_LokL (e_stL (er_ifeq (off := 7) (tg := 1429) (x_dk dn_0_9_ok 82 rfl) (by decide))))))
  (e_TokL
  (e_LokL (e_stL (er_iconst (n := 1) (z := 1) (v := 1) (x_dk dn_0_9_ok 83 rfl) (by decide) (by decide))))
  (e_TokL
  (e_LokL (e_stL (er_goto (off := 4) (tg := 1430) (x_dk dn_0_9_ok 84 rfl) (by decide))))
  (e_LokL (e_stL (er_iconst (n := 0) (z := 0) (v := 0) (x_dk dn_0_9_ok 85 rfl) (by decide) (by decide)))))))
  (e_TokL
  (e_TokL
  (e_LokL (e_stL (er_aload_n (i := 0) (x_dk dn_0_9_ok 86 rfl))))
  (e_TokL
  (e_LokL (e_stL (er_iload_n (i := 3) (x_dk dn_0_9_ok 87 rfl))))
  (e_LokL (e_stL (er_iconst (n := 3) (z := 3) (v := 3) (x_dk dn_0_9_ok 88 rfl) (by decide) (by decide))))))
  (e_TokL
  (e_LokL (e_stL (er_iadd (x_dk dn_0_9_ok 89 rfl))))
  (e_TokL
  (e_LokL (Or.inr (Or.inr ⟨rfl, (x_dk dn_0_9_ok 90 rfl)⟩)))
  (e_LokL (e_stL (er_ifeq (off := 7) (tg := 1442) (x_dk dn_0_9_ok 91 rfl) (by decide)))))))))
def te_0_992 (L : Nat) (xs : Nat → Int32) : Nat → eE := (e_T 1455 (e_T 1447 (e_T 1442 (e_T 1438 (e_L 1438 (0, ei_push (0, 1) 1439, 0, 0)) (e_T 1439 (e_L 1439 (0, ei_goto 1443, 0, 0)) (e_L 1442 (0, ei_push (0, 0) 1443, 0, 0)))) (e_T 1443 (e_L 1443 (2, e_nof, 429, 4)) (e_T 1446 (e_L 1446 (0, ei_stk ef_pop 1447, 0, 0)) (e_L 1447 (0, ei_goto 2142, 0, 0))))) (e_T 1452 (e_T 1450 (e_L 1450 (0, ei_load 1 2 1451, 0, 0)) (e_T 1451 (e_L 1451 (0, ei_load 0 2 1452, 0, 0)) (e_L 1452 (0, ei_load 3 0 1453, 0, 0)))) (e_T 1453 (e_L 1453 (0, ei_push (0, 1) 1454, 0, 0)) (e_T 1454 (e_L 1454 (0, ei_bin eF_add 1455, 0, 0)) (e_L 1455 (0, e_S (g_scd L xs 1456), 0, 0)))))) (e_T 1463 (e_T 1460 (e_T 1456 (e_L 1456 (2, e_nof, 218, 2)) (e_T 1459 (e_L 1459 (0, ei_stk ef_pop 1460, 0, 0)) (e_L 1460 (0, ei_load 2 2 1461, 0, 0)))) (e_T 1461 (e_L 1461 (0, ei_load 0 2 1462, 0, 0)) (e_T 1462 (e_L 1462 (0, ei_load 3 0 1463, 0, 0)) (e_L 1463 (0, ei_push (0, 1) 1464, 0, 0))))) (e_T 1466 (e_T 1464 (e_L 1464 (0, ei_bin eF_add 1465, 0, 0)) (e_T 1465 (e_L 1465 (0, e_S (g_scd L xs 1466), 0, 0)) (e_L 1466 (2, e_nof, 430, 2)))) (e_T 1469 (e_L 1469 (0, ei_stk ef_pop 1470, 0, 0)) (e_T 1470 (e_L 1470 (0, ei_goto 2142, 0, 0)) (e_L 1473 (0, ei_load 1 2 1474, 0, 0)))))))
set_option maxRecDepth 20000 in
set_option maxHeartbeats 4000000 in
theorem te_0_992_ok (L : Nat) (xs : Nat → Int32) : ∀ pc, e_EOl L xs pc (te_0_992 L xs pc) :=
  (e_TokL
  (e_TokL
  (e_TokL
  (e_TokL
  (e_LokL (e_stL (er_iconst (n := 1) (z := 1) (v := 1) (x_dk dn_0_9_ok 92 rfl) (by decide) (by decide))))
  (e_TokL
  (e_LokL (e_stL (er_goto (off := 4) (tg := 1443) (x_dk dn_0_9_ok 93 rfl) (by decide))))
  (e_LokL (e_stL (er_iconst (n := 0) (z := 0) (v := 0) (x_dk dn_0_9_ok 94 rfl) (by decide) (by decide))))))
  (e_TokL
  (e_LokL (e_caL (q' := n_429) rfl (xr_callV (q' := n_429) (ix := 133) (n := 3) (in_t13 (List.mem_of_getElem? (i := 162) rfl) rfl) good_w (in_t1 (List.mem_of_getElem? (i := 14) rfl) rfl) (in_t13 (List.mem_of_getElem? (i := 159) rfl) rfl) (in_t13 (List.mem_of_getElem? (i := 160) rfl) rfl) (in_t13 (List.mem_of_getElem? (i := 161) rfl) rfl) (by decide +kernel) (by decide +kernel) (by decide +kernel) (x_dk dn_0_9_ok 95 rfl))))
  (e_TokL
  (e_LokL (e_stL (er_pop (x_dk dn_0_9_ok 96 rfl))))
  (e_LokL (e_stL (er_goto (off := 695) (tg := 2142) (x_dk dn_0_9_ok 97 rfl) (by decide)))))))
  (e_TokL
  (e_TokL
  (e_LokL (e_stL (er_aload_n (i := 1) (x_dk dn_0_9_ok 98 rfl))))
  (e_TokL
  (e_LokL (e_stL (er_aload_n (i := 0) (x_dk dn_0_9_ok 99 rfl))))
  (e_LokL (e_stL (er_iload_n (i := 3) (x_dk dn_0_10_ok 0 rfl))))))
  (e_TokL
  (e_LokL (e_stL (er_iconst (n := 1) (z := 1) (v := 1) (x_dk dn_0_10_ok 1 rfl) (by decide) (by decide))))
  (e_TokL
  (e_LokL (e_stL (er_iadd (x_dk dn_0_10_ok 2 rfl))))
  (e_LokL (Or.inr (Or.inr ⟨rfl, (x_dk dn_0_10_ok 3 rfl)⟩)))))))
  (e_TokL
  (e_TokL
  (e_TokL
  (e_LokL (e_caL (q' := n_218) rfl (xr_callV (q' := n_218) (ix := 134) (n := 1) (in_t8 (List.mem_of_getElem? (i := 170) rfl) rfl) good_w (in_t1 (List.mem_of_getElem? (i := 1) rfl) rfl) (in_t8 (List.mem_of_getElem? (i := 167) rfl) rfl) (in_t8 (List.mem_of_getElem? (i := 168) rfl) rfl) (in_t8 (List.mem_of_getElem? (i := 169) rfl) rfl) (by decide +kernel) (by decide +kernel) (by decide +kernel) (x_dk dn_0_10_ok 4 rfl))))
  (e_TokL
  (e_LokL (e_stL (er_pop (x_dk dn_0_10_ok 5 rfl))))
  (e_LokL (e_stL (er_aload_n (i := 2) (x_dk dn_0_10_ok 6 rfl))))))
  (e_TokL
  (e_LokL (e_stL (er_aload_n (i := 0) (x_dk dn_0_10_ok 7 rfl))))
  (e_TokL
  (e_LokL (e_stL (er_iload_n (i := 3) (x_dk dn_0_10_ok 8 rfl))))
  (e_LokL (e_stL (er_iconst (n := 1) (z := 1) (v := 1) (x_dk dn_0_10_ok 9 rfl) (by decide) (by decide)))))))
  (e_TokL
  (e_TokL
  (e_LokL (e_stL (er_iadd (x_dk dn_0_10_ok 10 rfl))))
  (e_TokL
  (e_LokL (Or.inr (Or.inr ⟨rfl, (x_dk dn_0_10_ok 11 rfl)⟩)))
  (e_LokL (e_caL (q' := n_430) rfl (xr_callV (q' := n_430) (ix := 137) (n := 1) (in_t13 (List.mem_of_getElem? (i := 166) rfl) rfl) good_w (in_t1 (List.mem_of_getElem? (i := 14) rfl) rfl) (in_t13 (List.mem_of_getElem? (i := 163) rfl) rfl) (in_t13 (List.mem_of_getElem? (i := 164) rfl) rfl) (in_t13 (List.mem_of_getElem? (i := 165) rfl) rfl) (by decide +kernel) (by decide +kernel) (by decide +kernel) (x_dk dn_0_10_ok 12 rfl))))))
  (e_TokL
  (e_LokL (e_stL (er_pop (x_dk dn_0_10_ok 13 rfl))))
  (e_TokL
  (e_LokL (e_stL (er_goto (off := 672) (tg := 2142) (x_dk dn_0_10_ok 14 rfl) (by decide))))
  (e_LokL (e_stL (er_aload_n (i := 1) (x_dk dn_0_10_ok 15 rfl)))))))))
def te_0_1016 (L : Nat) (xs : Nat → Int32) : Nat → eE := (e_T 1487 (e_T 1479 (e_T 1476 (e_T 1474 (e_L 1474 (0, ei_load 0 2 1475, 0, 0)) (e_T 1475 (e_L 1475 (0, ei_load 3 0 1476, 0, 0)) (e_L 1476 (0, ei_push (0, 1) 1477, 0, 0)))) (e_T 1477 (e_L 1477 (0, ei_bin eF_add 1478, 0, 0)) (e_T 1478 (e_L 1478 (0, e_S (g_scd L xs 1479), 0, 0)) (e_L 1479 (2, e_nof, 219, 2))))) (e_T 1484 (e_T 1482 (e_L 1482 (0, ei_stk ef_pop 1483, 0, 0)) (e_T 1483 (e_L 1483 (0, ei_load 2 2 1484, 0, 0)) (e_L 1484 (0, ei_load 0 2 1485, 0, 0)))) (e_T 1485 (e_L 1485 (0, ei_load 3 0 1486, 0, 0)) (e_T 1486 (e_L 1486 (0, ei_push (0, 1) 1487, 0, 0)) (e_L 1487 (0, ei_bin eF_add 1488, 0, 0)))))) (e_T 1497 (e_T 1492 (e_T 1488 (e_L 1488 (0, e_S (g_scd L xs 1489), 0, 0)) (e_T 1489 (e_L 1489 (2, e_nof, 431, 2)) (e_L 1492 (0, ei_stk ef_pop 1493, 0, 0)))) (e_T 1493 (e_L 1493 (0, ei_goto 2142, 0, 0)) (e_T 1496 (e_L 1496 (0, ei_load 1 2 1497, 0, 0)) (e_L 1497 (0, ei_load 0 2 1498, 0, 0))))) (e_T 1500 (e_T 1498 (e_L 1498 (0, ei_load 3 0 1499, 0, 0)) (e_T 1499 (e_L 1499 (0, ei_push (0, 1) 1500, 0, 0)) (e_L 1500 (0, ei_bin eF_add 1501, 0, 0)))) (e_T 1501 (e_L 1501 (0, e_S (g_scd L xs 1502), 0, 0)) (e_T 1502 (e_L 1502 (2, e_nof, 220, 2)) (e_L 1505 (0, ei_stk ef_pop 1506, 0, 0)))))))
set_option maxRecDepth 20000 in
set_option maxHeartbeats 4000000 in
theorem te_0_1016_ok (L : Nat) (xs : Nat → Int32) : ∀ pc, e_EOl L xs pc (te_0_1016 L xs pc) :=
  (e_TokL
  (e_TokL
  (e_TokL
  (e_TokL
  (e_LokL (e_stL (er_aload_n (i := 0) (x_dk dn_0_10_ok 16 rfl))))
  (e_TokL
  (e_LokL (e_stL (er_iload_n (i := 3) (x_dk dn_0_10_ok 17 rfl))))
  (e_LokL (e_stL (er_iconst (n := 1) (z := 1) (v := 1) (x_dk dn_0_10_ok 18 rfl) (by decide) (by decide))))))
  (e_TokL
  (e_LokL (e_stL (er_iadd (x_dk dn_0_10_ok 19 rfl))))
  (e_TokL
  (e_LokL (Or.inr (Or.inr ⟨rfl, (x_dk dn_0_10_ok 20 rfl)⟩)))
  (e_LokL (e_caL (q' := n_219) rfl (xr_callV (q' := n_219) (ix := 138) (n := 1) (in_t8 (List.mem_of_getElem? (i := 178) rfl) rfl) good_w (in_t1 (List.mem_of_getElem? (i := 1) rfl) rfl) (in_t8 (List.mem_of_getElem? (i := 175) rfl) rfl) (in_t8 (List.mem_of_getElem? (i := 176) rfl) rfl) (in_t8 (List.mem_of_getElem? (i := 177) rfl) rfl) (by decide +kernel) (by decide +kernel) (by decide +kernel) (x_dk dn_0_10_ok 21 rfl)))))))
  (e_TokL
  (e_TokL
  (e_LokL (e_stL (er_pop (x_dk dn_0_10_ok 22 rfl))))
  (e_TokL
  (e_LokL (e_stL (er_aload_n (i := 2) (x_dk dn_0_10_ok 23 rfl))))
  (e_LokL (e_stL (er_aload_n (i := 0) (x_dk dn_0_10_ok 24 rfl))))))
  (e_TokL
  (e_LokL (e_stL (er_iload_n (i := 3) (x_dk dn_0_10_ok 25 rfl))))
  (e_TokL
  (e_LokL (e_stL (er_iconst (n := 1) (z := 1) (v := 1) (x_dk dn_0_10_ok 26 rfl) (by decide) (by decide))))
  (e_LokL (e_stL (er_iadd (x_dk dn_0_10_ok 27 rfl))))))))
  (e_TokL
  (e_TokL
  (e_TokL
  (e_LokL (Or.inr (Or.inr ⟨rfl, (x_dk dn_0_10_ok 28 rfl)⟩)))
  (e_TokL
  (e_LokL (e_caL (q' := n_431) rfl (xr_callV (q' := n_431) (ix := 141) (n := 1) (in_t13 (List.mem_of_getElem? (i := 170) rfl) rfl) good_w (in_t1 (List.mem_of_getElem? (i := 14) rfl) rfl) (in_t13 (List.mem_of_getElem? (i := 167) rfl) rfl) (in_t13 (List.mem_of_getElem? (i := 168) rfl) rfl) (in_t13 (List.mem_of_getElem? (i := 169) rfl) rfl) (by decide +kernel) (by decide +kernel) (by decide +kernel) (x_dk dn_0_10_ok 29 rfl))))
  (e_LokL (e_stL (er_pop (x_dk dn_0_10_ok 30 rfl))))))
  (e_TokL
  (e_LokL (e_stL (er_goto (off := 649) (tg := 2142) (x_dk dn_0_10_ok 31 rfl) (by decide))))
  (e_TokL
  (e_LokL (e_stL (er_aload_n (i := 1) (x_dk dn_0_10_ok 32 rfl))))
  (e_LokL (e_stL (er_aload_n (i := 0) (x_dk dn_0_10_ok 33 rfl)))))))
  (e_TokL
  (e_TokL
  (e_LokL (e_stL (er_iload_n (i := 3) (x_dk dn_0_10_ok 34 rfl))))
  (e_TokL
  (e_LokL (e_stL (er_iconst (n := 1) (z := 1) (v := 1) (x_dk dn_0_10_ok 35 rfl) (by decide) (by decide))))
  (e_LokL (e_stL (er_iadd (x_dk dn_0_10_ok 36 rfl))))))
  (e_TokL
  (e_LokL (Or.inr (Or.inr ⟨rfl, (x_dk dn_0_10_ok 37 rfl)⟩)))
  (e_TokL
  (e_LokL (e_caL (q' := n_220) rfl (xr_callV (q' := n_220) (ix := 142) (n := 1) (in_t8 (List.mem_of_getElem? (i := 182) rfl) rfl) good_w (in_t1 (List.mem_of_getElem? (i := 1) rfl) rfl) (in_t8 (List.mem_of_getElem? (i := 179) rfl) rfl) (in_t8 (List.mem_of_getElem? (i := 180) rfl) rfl) (in_t8 (List.mem_of_getElem? (i := 181) rfl) rfl) (by decide +kernel) (by decide +kernel) (by decide +kernel) (x_dk dn_0_10_ok 38 rfl))))
  (e_LokL (e_stL (er_pop (x_dk dn_0_10_ok 39 rfl)))))))))
def te_0_1040 (L : Nat) (xs : Nat → Int32) : Nat → eE := (e_T 1521 (e_T 1511 (e_T 1508 (e_T 1506 (e_L 1506 (0, ei_load 2 2 1507, 0, 0)) (e_T 1507 (e_L 1507 (0, ei_load 0 2 1508, 0, 0)) (e_L 1508 (0, ei_load 3 0 1509, 0, 0)))) (e_T 1509 (e_L 1509 (0, ei_push (0, 1) 1510, 0, 0)) (e_T 1510 (e_L 1510 (0, ei_bin eF_add 1511, 0, 0)) (e_L 1511 (0, e_S (g_scd L xs 1512), 0, 0))))) (e_T 1516 (e_T 1512 (e_L 1512 (2, e_nof, 432, 2)) (e_T 1515 (e_L 1515 (0, ei_stk ef_pop 1516, 0, 0)) (e_L 1516 (0, ei_goto 2142, 0, 0)))) (e_T 1519 (e_L 1519 (0, ei_load 1 2 1520, 0, 0)) (e_T 1520 (e_L 1520 (0, ei_load 0 2 1521, 0, 0)) (e_L 1521 (0, ei_load 3 0 1522, 0, 0)))))) (e_T 1527 (e_T 1524 (e_T 1522 (e_L 1522 (0, ei_push (0, 1) 1523, 0, 0)) (e_T 1523 (e_L 1523 (0, ei_bin eF_add 1524, 0, 0)) (e_L 1524 (0, e_S (g_scd L xs 1525), 0, 0)))) (e_T 1525 (e_L 1525 (0, ei_load 0 2 1526, 0, 0)) (e_T 1526 (e_L 1526 (0, ei_load 3 0 1527, 0, 0)) (e_L 1527 (0, ei_push (0, 2) 1528, 0, 0))))) (e_T 1530 (e_T 1528 (e_L 1528 (0, ei_bin eF_add 1529, 0, 0)) (e_T 1529 (e_L 1529 (0, e_S (g_scd L xs 1530), 0, 0)) (e_L 1530 (0, ei_load 0 2 1531, 0, 0)))) (e_T 1532 (e_T 1531 (e_L 1531 (0, ei_load 3 0 1532, 0, 0)) (e_L 1532 (0, ei_push (0, 3) 1533, 0, 0))) (e_T 1533 (e_L 1533 (0, ei_bin eF_add 1534, 0, 0)) (e_L 1534 (0, e_S (g_scd L xs 1535), 0, 0)))))))
set_option maxRecDepth 20000 in
set_option maxHeartbeats 4000000 in
theorem te_0_1040_ok (L : Nat) (xs : Nat → Int32) : ∀ pc, e_EOl L xs pc (te_0_1040 L xs pc) :=
  (e_TokL
  (e_TokL
  (e_TokL
  (e_TokL
  (e_LokL (e_stL (er_aload_n (i := 2) (x_dk dn_0_10_ok 40 rfl))))
  (e_TokL
  (e_LokL (e_stL (er_aload_n (i := 0) (x_dk dn_0_10_ok 41 rfl))))
  (e_LokL (e_stL (er_iload_n (i := 3) (x_dk dn_0_10_ok 42 rfl))))))
  (e_TokL
  (e_LokL (e_stL (er_iconst (n := 1) (z := 1) (v := 1) (x_dk dn_0_10_ok 43 rfl) (by decide) (by decide))))
  (e_TokL
  (e_LokL (e_stL (er_iadd (x_dk dn_0_10_ok 44 rfl))))
  (e_LokL (Or.inr (Or.inr ⟨rfl, (x_dk dn_0_10_ok 45 rfl)⟩))))))
  (e_TokL
  (e_TokL
  (e_LokL (e_caL (q' := n_432) rfl (xr_callV (q' := n_432) (ix := 145) (n := 1) (in_t13 (List.mem_of_getElem? (i := 174) rfl) rfl) good_w (in_t1 (List.mem_of_getElem? (i := 14) rfl) rfl) (in_t13 (List.mem_of_getElem? (i := 171) rfl) rfl) (in_t13 (List.mem_of_getElem? (i := 172) rfl) rfl) (in_t13 (List.mem_of_getElem? (i := 173) rfl) rfl) (by decide +kernel) (by decide +kernel) (by decide +kernel) (x_dk dn_0_10_ok 46 rfl))))
  (e_TokL
  (e_LokL (e_stL (er_pop (x_dk dn_0_10_ok 47 rfl))))
  (e_LokL (e_stL (er_goto (off := 626) (tg := 2142) (x_dk dn_0_10_ok 48 rfl) (by decide))))))
  (e_TokL
  (e_LokL (e_stL (er_aload_n (i := 1) (x_dk dn_0_10_ok 49 rfl))))
  (e_TokL
  (e_LokL (e_stL (er_aload_n (i := 0) (x_dk dn_0_10_ok 50 rfl))))
  (e_LokL (e_stL (er_iload_n (i := 3) (x_dk dn_0_10_ok 51 rfl))))))))
  (e_TokL
  (e_TokL
  (e_TokL
  (e_LokL (e_stL (er_iconst (n := 1) (z := 1) (v := 1) (x_dk dn_0_10_ok 52 rfl) (by decide) (by decide))))
  (e_TokL
  (e_LokL (e_stL (er_iadd (x_dk dn_0_10_ok 53 rfl))))
  (e_LokL (Or.inr (Or.inr ⟨rfl, (x_dk dn_0_10_ok 54 rfl)⟩)))))
  (e_TokL
  (e_LokL (e_stL (er_aload_n (i := 0) (x_dk dn_0_10_ok 55 rfl))))
  (e_TokL
  (e_LokL (e_stL (er_iload_n (i := 3) (x_dk dn_0_10_ok 56 rfl))))
  (e_LokL (e_stL (er_iconst (n := 2) (z := 2) (v := 2) (x_dk dn_0_10_ok 57 rfl) (by decide) (by decide)))))))
  (e_TokL
  (e_TokL
  (e_LokL (e_stL (er_iadd (x_dk dn_0_10_ok 58 rfl))))
  (e_TokL
  (e_LokL (Or.inr (Or.inr ⟨rfl, (x_dk dn_0_10_ok 59 rfl)⟩)))
  (e_LokL (e_stL (er_aload_n (i := 0) (x_dk dn_0_10_ok 60 rfl))))))
  (e_TokL
  (e_TokL
  (e_LokL (e_stL (er_iload_n (i := 3) (x_dk dn_0_10_ok 61 rfl))))
  (e_LokL (e_stL (er_iconst (n := 3) (z := 3) (v := 3) (x_dk dn_0_10_ok 62 rfl) (by decide) (by decide)))))
  (e_TokL
  (e_LokL (e_stL (er_iadd (x_dk dn_0_10_ok 63 rfl))))
  (e_LokL (Or.inr (Or.inr ⟨rfl, (x_dk dn_0_10_ok 64 rfl)⟩))))))))
def te_0_1065 (L : Nat) (xs : Nat → Int32) : Nat → eE := (e_T 1548 (e_T 1542 (e_T 1539 (e_T 1535 (e_L 1535 (2, e_nof, 221, 4)) (e_T 1538 (e_L 1538 (0, ei_stk ef_pop 1539, 0, 0)) (e_L 1539 (0, ei_load 2 2 1540, 0, 0)))) (e_T 1540 (e_L 1540 (0, ei_load 0 2 1541, 0, 0)) (e_T 1541 (e_L 1541 (0, ei_load 3 0 1542, 0, 0)) (e_L 1542 (0, ei_push (0, 1) 1543, 0, 0))))) (e_T 1545 (e_T 1543 (e_L 1543 (0, ei_bin eF_add 1544, 0, 0)) (e_T 1544 (e_L 1544 (0, e_S (g_scd L xs 1545), 0, 0)) (e_L 1545 (0, ei_load 0 2 1546, 0, 0)))) (e_T 1546 (e_L 1546 (0, ei_load 3 0 1547, 0, 0)) (e_T 1547 (e_L 1547 (0, ei_push (0, 2) 1548, 0, 0)) (e_L 1548 (0, ei_bin eF_add 1549, 0, 0)))))) (e_T 1554 (e_T 1551 (e_T 1549 (e_L 1549 (0, e_S (g_scd L xs 1550), 0, 0)) (e_T 1550 (e_L 1550 (0, ei_load 0 2 1551, 0, 0)) (e_L 1551 (0, ei_load 3 0 1552, 0, 0)))) (e_T 1552 (e_L 1552 (0, ei_push (0, 3) 1553, 0, 0)) (e_T 1553 (e_L 1553 (0, ei_bin eF_add 1554, 0, 0)) (e_L 1554 (0, e_S (g_scd L xs 1555), 0, 0))))) (e_T 1559 (e_T 1555 (e_L 1555 (2, e_nof, 433, 4)) (e_T 1558 (e_L 1558 (0, ei_stk ef_pop 1559, 0, 0)) (e_L 1559 (0, ei_goto 2142, 0, 0)))) (e_T 1562 (e_L 1562 (0, ei_load 1 2 1563, 0, 0)) (e_T 1563 (e_L 1563 (0, ei_load 0 2 1564, 0, 0)) (e_L 1564 (0, ei_load 3 0 1565, 0, 0)))))))
set_option maxRecDepth 20000 in
set_option maxHeartbeats 4000000 in
theorem te_0_1065_ok (L : Nat) (xs : Nat → Int32) : ∀ pc, e_EOl L xs pc (te_0_1065 L xs pc) :=
  (e_TokL
  (e_TokL
  (e_TokL
  (e_TokL
  (e_LokL (e_caL (q' := n_221) rfl (xr_callV (q' := n_221) (ix := 146) (n := 3) (in_t8 (List.mem_of_getElem? (i := 186) rfl) rfl) good_w (in_t1 (List.mem_of_getElem? (i := 1) rfl) rfl) (in_t8 (List.mem_of_getElem? (i := 183) rfl) rfl) (in_t8 (List.mem_of_getElem? (i := 184) rfl) rfl) (in_t8 (List.mem_of_getElem? (i := 185) rfl) rfl) (by decide +kernel) (by decide +kernel) (by decide +kernel) (x_dk dn_0_10_ok 65 rfl))))
  (e_TokL
  (e_LokL (e_stL (er_pop (x_dk dn_0_10_ok 66 rfl))))
  (e_LokL (e_stL (er_aload_n (i := 2) (x_dk dn_0_10_ok 67 rfl))))))
  (e_TokL
  (e_LokL (e_stL (er_aload_n (i := 0) (x_dk dn_0_10_ok 68 rfl))))
  (e_TokL
  (e_LokL (e_stL (er_iload_n (i := 3) (x_dk dn_0_10_ok 69 rfl))))
  (e_LokL (e_stL (er_iconst (n := 1) (z := 1) (v := 1) (x_dk dn_0_10_ok 70 rfl) (by decide) (by decide)))))))
  (e_TokL
  (e_TokL
  (e_LokL (e_stL (er_iadd (x_dk dn_0_10_ok 71 rfl))))
  (e_TokL
  (e_LokL (Or.inr (Or.inr ⟨rfl, (x_dk dn_0_10_ok 72 rfl)⟩)))
  (e_LokL (e_stL (er_aload_n (i := 0) (x_dk dn_0_10_ok 73 rfl))))))
  (e_TokL
  (e_LokL (e_stL (er_iload_n (i := 3) (x_dk dn_0_10_ok 74 rfl))))
  (e_TokL
  (e_LokL (e_stL (er_iconst (n := 2) (z := 2) (v := 2) (x_dk dn_0_10_ok 75 rfl) (by decide) (by decide))))
  (e_LokL (e_stL (er_iadd (x_dk dn_0_10_ok 76 rfl))))))))
  (e_TokL
  (e_TokL
  (e_TokL
  (e_LokL (Or.inr (Or.inr ⟨rfl, (x_dk dn_0_10_ok 77 rfl)⟩)))
  (e_TokL
  (e_LokL (e_stL (er_aload_n (i := 0) (x_dk dn_0_10_ok 78 rfl))))
  (e_LokL (e_stL (er_iload_n (i := 3) (x_dk dn_0_10_ok 79 rfl))))))
  (e_TokL
  (e_LokL (e_stL (er_iconst (n := 3) (z := 3) (v := 3) (x_dk dn_0_10_ok 80 rfl) (by decide) (by decide))))
  (e_TokL
  (e_LokL (e_stL (er_iadd (x_dk dn_0_10_ok 81 rfl))))
  (e_LokL (Or.inr (Or.inr ⟨rfl, (x_dk dn_0_10_ok 82 rfl)⟩))))))
  (e_TokL
  (e_TokL
  (e_LokL (e_caL (q' := n_433) rfl (xr_callV (q' := n_433) (ix := 149) (n := 3) (in_t13 (List.mem_of_getElem? (i := 178) rfl) rfl) good_w (in_t1 (List.mem_of_getElem? (i := 14) rfl) rfl) (in_t13 (List.mem_of_getElem? (i := 175) rfl) rfl) (in_t13 (List.mem_of_getElem? (i := 176) rfl) rfl) (in_t13 (List.mem_of_getElem? (i := 177) rfl) rfl) (by decide +kernel) (by decide +kernel) (by decide +kernel) (x_dk dn_0_10_ok 83 rfl))))
  (e_TokL
  (e_LokL (e_stL (er_pop (x_dk dn_0_10_ok 84 rfl))))
  (e_LokL (e_stL (er_goto (off := 583) (tg := 2142) (x_dk dn_0_10_ok 85 rfl) (by decide))))))
  (e_TokL
  (e_LokL (e_stL (er_aload_n (i := 1) (x_dk dn_0_10_ok 86 rfl))))
  (e_TokL
  (e_LokL (e_stL (er_aload_n (i := 0) (x_dk dn_0_10_ok 87 rfl))))
  (e_LokL (e_stL (er_iload_n (i := 3) (x_dk dn_0_10_ok 88 rfl)))))))))
def te_0_1089 (L : Nat) (xs : Nat → Int32) : Nat → eE := (e_T 1578 (e_T 1570 (e_T 1567 (e_T 1565 (e_L 1565 (0, ei_push (0, 1) 1566, 0, 0)) (e_T 1566 (e_L 1566 (0, ei_bin eF_add 1567, 0, 0)) (e_L 1567 (0, e_S (g_scd L xs 1568), 0, 0)))) (e_T 1568 (e_L 1568 (0, ei_load 0 2 1569, 0, 0)) (e_T 1569 (e_L 1569 (0, ei_load 3 0 1570, 0, 0)) (e_L 1570 (0, ei_push (0, 2) 1571, 0, 0))))) (e_T 1573 (e_T 1571 (e_L 1571 (0, ei_bin eF_add 1572, 0, 0)) (e_T 1572 (e_L 1572 (0, e_S (g_scd L xs 1573), 0, 0)) (e_L 1573 (2, e_nof, 222, 3)))) (e_T 1576 (e_L 1576 (0, ei_stk ef_pop 1577, 0, 0)) (e_T 1577 (e_L 1577 (0, ei_load 2 2 1578, 0, 0)) (e_L 1578 (0, ei_load 0 2 1579, 0, 0)))))) (e_T 1584 (e_T 1581 (e_T 1579 (e_L 1579 (0, ei_load 3 0 1580, 0, 0)) (e_T 1580 (e_L 1580 (0, ei_push (0, 1) 1581, 0, 0)) (e_L 1581 (0, ei_bin eF_add 1582, 0, 0)))) (e_T 1582 (e_L 1582 (0, e_S (g_scd L xs 1583), 0, 0)) (e_T 1583 (e_L 1583 (0, ei_load 0 2 1584, 0, 0)) (e_L 1584 (0, ei_load 3 0 1585, 0, 0))))) (e_T 1587 (e_T 1585 (e_L 1585 (0, ei_push (0, 2) 1586, 0, 0)) (e_T 1586 (e_L 1586 (0, ei_bin eF_add 1587, 0, 0)) (e_L 1587 (0, e_S (g_scd L xs 1588), 0, 0)))) (e_T 1588 (e_L 1588 (2, e_nof, 434, 3)) (e_T 1591 (e_L 1591 (0, ei_stk ef_pop 1592, 0, 0)) (e_L 1592 (0, ei_goto 2142, 0, 0)))))))
set_option maxRecDepth 20000 in
set_option maxHeartbeats 4000000 in
theorem te_0_1089_ok (L : Nat) (xs : Nat → Int32) : ∀ pc, e_EOl L xs pc (te_0_1089 L xs pc) :=
  (e_TokL
  (e_TokL
  (e_TokL
  (e_TokL
  (e_LokL (e_stL (er_iconst (n := 1) (z := 1) (v := 1) (x_dk dn_0_10_ok 89 rfl) (by decide) (by decide))))
  (e_TokL
  (e_LokL (e_stL (er_iadd (x_dk dn_0_10_ok 90 rfl))))
  (e_LokL (Or.inr (Or.inr ⟨rfl, (x_dk dn_0_10_ok 91 rfl)⟩)))))
  (e_TokL
  (e_LokL (e_stL (er_aload_n (i := 0) (x_dk dn_0_10_ok 92 rfl))))
  (e_TokL
  (e_LokL (e_stL (er_iload_n (i := 3) (x_dk dn_0_10_ok 93 rfl))))
  (e_LokL (e_stL (er_iconst (n := 2) (z := 2) (v := 2) (x_dk dn_0_10_ok 94 rfl) (by decide) (by decide)))))))
  (e_TokL
  (e_TokL
  (e_LokL (e_stL (er_iadd (x_dk dn_0_10_ok 95 rfl))))
  (e_TokL
  (e_LokL (Or.inr (Or.inr ⟨rfl, (x_dk dn_0_10_ok 96 rfl)⟩)))
  (e_LokL (e_caL (q' := n_222) rfl (xr_callV (q' := n_222) (ix := 150) (n := 2) (in_t8 (List.mem_of_getElem? (i := 191) rfl) rfl) good_w (in_t1 (List.mem_of_getElem? (i := 1) rfl) rfl) (in_t8 (List.mem_of_getElem? (i := 188) rfl) rfl) (in_t8 (List.mem_of_getElem? (i := 189) rfl) rfl) (in_t8 (List.mem_of_getElem? (i := 190) rfl) rfl) (by decide +kernel) (by decide +kernel) (by decide +kernel) (x_dk dn_0_10_ok 97 rfl))))))
  (e_TokL
  (e_LokL (e_stL (er_pop (x_dk dn_0_10_ok 98 rfl))))
  (e_TokL
  (e_LokL (e_stL (er_aload_n (i := 2) (x_dk dn_0_10_ok 99 rfl))))
  (e_LokL (e_stL (er_aload_n (i := 0) (x_dk dn_0_11_ok 0 rfl))))))))
  (e_TokL
  (e_TokL
  (e_TokL
  (e_LokL (e_stL (er_iload_n (i := 3) (x_dk dn_0_11_ok 1 rfl))))
  (e_TokL
  (e_LokL (e_stL (er_iconst (n := 1) (z := 1) (v := 1) (x_dk dn_0_11_ok 2 rfl) (by decide) (by decide))))
  (e_LokL (e_stL (er_iadd (x_dk dn_0_11_ok 3 rfl))))))
  (e_TokL
  (e_LokL (Or.inr (Or.inr ⟨rfl, (x_dk dn_0_11_ok 4 rfl)⟩)))
  (e_TokL
  (e_LokL (e_stL (er_aload_n (i := 0) (x_dk dn_0_11_ok 5 rfl))))
  (e_LokL (e_stL (er_iload_n (i := 3) (x_dk dn_0_11_ok 6 rfl)))))))
  (e_TokL
  (e_TokL
  (e_LokL (e_stL (er_iconst (n := 2) (z := 2) (v := 2) (x_dk dn_0_11_ok 7 rfl) (by decide) (by decide))))
  (e_TokL
  (e_LokL (e_stL (er_iadd (x_dk dn_0_11_ok 8 rfl))))
  (e_LokL (Or.inr (Or.inr ⟨rfl, (x_dk dn_0_11_ok 9 rfl)⟩)))))
  (e_TokL
  (e_LokL (e_caL (q' := n_434) rfl (xr_callV (q' := n_434) (ix := 153) (n := 2) (in_t13 (List.mem_of_getElem? (i := 182) rfl) rfl) good_w (in_t1 (List.mem_of_getElem? (i := 14) rfl) rfl) (in_t13 (List.mem_of_getElem? (i := 179) rfl) rfl) (in_t13 (List.mem_of_getElem? (i := 180) rfl) rfl) (in_t13 (List.mem_of_getElem? (i := 181) rfl) rfl) (by decide +kernel) (by decide +kernel) (by decide +kernel) (x_dk dn_0_11_ok 10 rfl))))
  (e_TokL
  (e_LokL (e_stL (er_pop (x_dk dn_0_11_ok 11 rfl))))
  (e_LokL (e_stL (er_goto (off := 550) (tg := 2142) (x_dk dn_0_11_ok 12 rfl) (by decide)))))))))
def te_0_1113 (L : Nat) (xs : Nat → Int32) : Nat → eE := (e_T 1606 (e_T 1600 (e_T 1597 (e_T 1595 (e_L 1595 (0, ei_load 1 2 1596, 0, 0)) (e_T 1596 (e_L 1596 (0, ei_load 0 2 1597, 0, 0)) (e_L 1597 (0, ei_load 3 0 1598, 0, 0)))) (e_T 1598 (e_L 1598 (0, ei_push (0, 1) 1599, 0, 0)) (e_T 1599 (e_L 1599 (0, ei_bin eF_add 1600, 0, 0)) (e_L 1600 (0, e_S (g_scd L xs 1601), 0, 0))))) (e_T 1603 (e_T 1601 (e_L 1601 (0, ei_load 0 2 1602, 0, 0)) (e_T 1602 (e_L 1602 (0, ei_load 3 0 1603, 0, 0)) (e_L 1603 (0, ei_push (0, 2) 1604, 0, 0)))) (e_T 1604 (e_L 1604 (0, ei_bin eF_add 1605, 0, 0)) (e_T 1605 (e_L 1605 (0, e_S (g_scd L xs 1606), 0, 0)) (e_L 1606 (0, ei_load 0 2 1607, 0, 0)))))) (e_T 1614 (e_T 1609 (e_T 1607 (e_L 1607 (0, ei_load 3 0 1608, 0, 0)) (e_T 1608 (e_L 1608 (0, ei_push (0, 3) 1609, 0, 0)) (e_L 1609 (0, ei_bin eF_add 1610, 0, 0)))) (e_T 1610 (e_L 1610 (0, e_S (g_scd L xs 1611), 0, 0)) (e_T 1611 (e_L 1611 (2, e_nof, 223, 4)) (e_L 1614 (0, ei_stk ef_pop 1615, 0, 0))))) (e_T 1617 (e_T 1615 (e_L 1615 (0, ei_load 2 2 1616, 0, 0)) (e_T 1616 (e_L 1616 (0, ei_load 0 2 1617, 0, 0)) (e_L 1617 (0, ei_load 3 0 1618, 0, 0)))) (e_T 1618 (e_L 1618 (0, ei_push (0, 1) 1619, 0, 0)) (e_T 1619 (e_L 1619 (0, ei_bin eF_add 1620, 0, 0)) (e_L 1620 (0, e_S (g_scd L xs 1621), 0, 0)))))))
set_option maxRecDepth 20000 in
set_option maxHeartbeats 4000000 in
theorem te_0_1113_ok (L : Nat) (xs : Nat → Int32) : ∀ pc, e_EOl L xs pc (te_0_1113 L xs pc) :=
  (e_TokL
  (e_TokL
  (e_TokL
  (e_TokL
  (e_LokL (e_stL (er_aload_n (i := 1) (x_dk dn_0_11_ok 13 rfl))))
  (e_TokL
  (e_LokL (e_stL (er_aload_n (i := 0) (x_dk dn_0_11_ok 14 rfl))))
  (e_LokL (e_stL (er_iload_n (i := 3) (x_dk dn_0_11_ok 15 rfl))))))
  (e_TokL
  (e_LokL (e_stL (er_iconst (n := 1) (z := 1) (v := 1) (x_dk dn_0_11_ok 16 rfl) (by decide) (by decide))))
  (e_TokL
  (e_LokL (e_stL (er_iadd (x_dk dn_0_11_ok 17 rfl))))
  (e_LokL (Or.inr (Or.inr ⟨rfl, (x_dk dn_0_11_ok 18 rfl)⟩))))))
  (e_TokL
  (e_TokL
  (e_LokL (e_stL (er_aload_n (i := 0) (x_dk dn_0_11_ok 19 rfl))))
  (e_TokL
  (e_LokL (e_stL (er_iload_n (i := 3) (x_dk dn_0_11_ok 20 rfl))))
  (e_LokL (e_stL (er_iconst (n := 2) (z := 2) (v := 2) (x_dk dn_0_11_ok 21 rfl) (by decide) (by decide))))))
  (e_TokL
  (e_LokL (e_stL (er_iadd (x_dk dn_0_11_ok 22 rfl))))
  (e_TokL
  (e_LokL (Or.inr (Or.inr ⟨rfl, (x_dk dn_0_11_ok 23 rfl)⟩)))
  (e_LokL (e_stL (er_aload_n (i := 0) (x_dk dn_0_11_ok 24 rfl))))))))
  (e_TokL
  (e_TokL
  (e_TokL
  (e_LokL (e_stL (er_iload_n (i := 3) (x_dk dn_0_11_ok 25 rfl))))
  (e_TokL
  (e_LokL (e_stL (er_iconst (n := 3) (z := 3) (v := 3) (x_dk dn_0_11_ok 26 rfl) (by decide) (by decide))))
  (e_LokL (e_stL (er_iadd (x_dk dn_0_11_ok 27 rfl))))))
  (e_TokL
  (e_LokL (Or.inr (Or.inr ⟨rfl, (x_dk dn_0_11_ok 28 rfl)⟩)))
  (e_TokL
  (e_LokL (e_caL (q' := n_223) rfl (xr_callV (q' := n_223) (ix := 154) (n := 3) (in_t8 (List.mem_of_getElem? (i := 195) rfl) rfl) good_w (in_t1 (List.mem_of_getElem? (i := 1) rfl) rfl) (in_t8 (List.mem_of_getElem? (i := 192) rfl) rfl) (in_t8 (List.mem_of_getElem? (i := 193) rfl) rfl) (in_t8 (List.mem_of_getElem? (i := 194) rfl) rfl) (by decide +kernel) (by decide +kernel) (by decide +kernel) (x_dk dn_0_11_ok 29 rfl))))
  (e_LokL (e_stL (er_pop (x_dk dn_0_11_ok 30 rfl)))))))
  (e_TokL
  (e_TokL
  (e_LokL (e_stL (er_aload_n (i := 2) (x_dk dn_0_11_ok 31 rfl))))
  (e_TokL
  (e_LokL (e_stL (er_aload_n (i := 0) (x_dk dn_0_11_ok 32 rfl))))
  (e_LokL (e_stL (er_iload_n (i := 3) (x_dk dn_0_11_ok 33 rfl))))))
  (e_TokL
  (e_LokL (e_stL (er_iconst (n := 1) (z := 1) (v := 1) (x_dk dn_0_11_ok 34 rfl) (by decide) (by decide))))
  (e_TokL
  (e_LokL (e_stL (er_iadd (x_dk dn_0_11_ok 35 rfl))))
  (e_LokL (Or.inr (Or.inr ⟨rfl, (x_dk dn_0_11_ok 36 rfl)⟩))))))))
def te_0_1137 (L : Nat) (xs : Nat → Int32) : Nat → eE := (e_T 1634 (e_T 1626 (e_T 1623 (e_T 1621 (e_L 1621 (0, ei_load 0 2 1622, 0, 0)) (e_T 1622 (e_L 1622 (0, ei_load 3 0 1623, 0, 0)) (e_L 1623 (0, ei_push (0, 2) 1624, 0, 0)))) (e_T 1624 (e_L 1624 (0, ei_bin eF_add 1625, 0, 0)) (e_T 1625 (e_L 1625 (0, e_S (g_scd L xs 1626), 0, 0)) (e_L 1626 (0, ei_load 0 2 1627, 0, 0))))) (e_T 1629 (e_T 1627 (e_L 1627 (0, ei_load 3 0 1628, 0, 0)) (e_T 1628 (e_L 1628 (0, ei_push (0, 3) 1629, 0, 0)) (e_L 1629 (0, ei_bin eF_add 1630, 0, 0)))) (e_T 1630 (e_L 1630 (0, e_S (g_scd L xs 1631), 0, 0)) (e_T 1631 (e_L 1631 (2, e_nof, 418, 4)) (e_L 1634 (0, ei_stk ef_pop 1635, 0, 0)))))) (e_T 1642 (e_T 1639 (e_T 1635 (e_L 1635 (0, ei_goto 2142, 0, 0)) (e_T 1638 (e_L 1638 (0, ei_load 1 2 1639, 0, 0)) (e_L 1639 (0, ei_load 0 2 1640, 0, 0)))) (e_T 1640 (e_L 1640 (0, ei_load 3 0 1641, 0, 0)) (e_T 1641 (e_L 1641 (0, ei_push (0, 1) 1642, 0, 0)) (e_L 1642 (0, ei_bin eF_add 1643, 0, 0))))) (e_T 1647 (e_T 1643 (e_L 1643 (0, e_S (g_scd L xs 1644), 0, 0)) (e_T 1644 (e_L 1644 (2, e_nof, 224, 2)) (e_L 1647 (0, ei_stk ef_pop 1648, 0, 0)))) (e_T 1649 (e_T 1648 (e_L 1648 (0, ei_load 2 2 1649, 0, 0)) (e_L 1649 (0, ei_load 0 2 1650, 0, 0))) (e_T 1650 (e_L 1650 (0, ei_load 3 0 1651, 0, 0)) (e_L 1651 (0, ei_push (0, 1) 1652, 0, 0)))))))
set_option maxRecDepth 20000 in
set_option maxHeartbeats 4000000 in
theorem te_0_1137_ok (L : Nat) (xs : Nat → Int32) : ∀ pc, e_EOl L xs pc (te_0_1137 L xs pc) :=
  (e_TokL
  (e_TokL
  (e_TokL
  (e_TokL
  (e_LokL (e_stL (er_aload_n (i := 0) (x_dk dn_0_11_ok 37 rfl))))
  (e_TokL
  (e_LokL (e_stL (er_iload_n (i := 3) (x_dk dn_0_11_ok 38 rfl))))
  (e_LokL (e_stL (er_iconst (n := 2) (z := 2) (v := 2) (x_dk dn_0_11_ok 39 rfl) (by decide) (by decide))))))
  (e_TokL
  (e_LokL (e_stL (er_iadd (x_dk dn_0_11_ok 40 rfl))))
  (e_TokL
  (e_LokL (Or.inr (Or.inr ⟨rfl, (x_dk dn_0_11_ok 41 rfl)⟩)))
  (e_LokL (e_stL (er_aload_n (i := 0) (x_dk dn_0_11_ok 42 rfl)))))))
  (e_TokL
  (e_TokL
  (e_LokL (e_stL (er_iload_n (i := 3) (x_dk dn_0_11_ok 43 rfl))))
  (e_TokL
  (e_LokL (e_stL (er_iconst (n := 3) (z := 3) (v := 3) (x_dk dn_0_11_ok 44 rfl) (by decide) (by decide))))
  (e_LokL (e_stL (er_iadd (x_dk dn_0_11_ok 45 rfl))))))
  (e_TokL
  (e_LokL (Or.inr (Or.inr ⟨rfl, (x_dk dn_0_11_ok 46 rfl)⟩)))
  (e_TokL
  (e_LokL (e_caL (q' := n_418) rfl (xr_callV (q' := n_418) (ix := 157) (n := 3) (in_t12 (List.mem_of_getElem? (i := 116) rfl) rfl) good_w (in_t1 (List.mem_of_getElem? (i := 14) rfl) rfl) (in_t12 (List.mem_of_getElem? (i := 113) rfl) rfl) (in_t12 (List.mem_of_getElem? (i := 114) rfl) rfl) (in_t12 (List.mem_of_getElem? (i := 115) rfl) rfl) (by decide +kernel) (by decide +kernel) (by decide +kernel) (x_dk dn_0_11_ok 47 rfl))))
  (e_LokL (e_stL (er_pop (x_dk dn_0_11_ok 48 rfl))))))))
  (e_TokL
  (e_TokL
  (e_TokL
  (e_LokL (e_stL (er_goto (off := 507) (tg := 2142) (x_dk dn_0_11_ok 49 rfl) (by decide))))
  (e_TokL
  (e_LokL (e_stL (er_aload_n (i := 1) (x_dk dn_0_11_ok 50 rfl))))
  (e_LokL (e_stL (er_aload_n (i := 0) (x_dk dn_0_11_ok 51 rfl))))))
  (e_TokL
  (e_LokL (e_stL (er_iload_n (i := 3) (x_dk dn_0_11_ok 52 rfl))))
  (e_TokL
  (e_LokL (e_stL (er_iconst (n := 1) (z := 1) (v := 1) (x_dk dn_0_11_ok 53 rfl) (by decide) (by decide))))
  (e_LokL (e_stL (er_iadd (x_dk dn_0_11_ok 54 rfl)))))))
  (e_TokL
  (e_TokL
  (e_LokL (Or.inr (Or.inr ⟨rfl, (x_dk dn_0_11_ok 55 rfl)⟩)))
  (e_TokL
  (e_LokL (e_caL (q' := n_224) rfl (xr_callV (q' := n_224) (ix := 158) (n := 1) (in_t8 (List.mem_of_getElem? (i := 239) rfl) rfl) good_w (in_t1 (List.mem_of_getElem? (i := 1) rfl) rfl) (in_t8 (List.mem_of_getElem? (i := 236) rfl) rfl) (in_t8 (List.mem_of_getElem? (i := 237) rfl) rfl) (in_t8 (List.mem_of_getElem? (i := 238) rfl) rfl) (by decide +kernel) (by decide +kernel) (by decide +kernel) (x_dk dn_0_11_ok 56 rfl))))
  (e_LokL (e_stL (er_pop (x_dk dn_0_11_ok 57 rfl))))))
  (e_TokL
  (e_TokL
  (e_LokL (e_stL (er_aload_n (i := 2) (x_dk dn_0_11_ok 58 rfl))))
  (e_LokL (e_stL (er_aload_n (i := 0) (x_dk dn_0_11_ok 59 rfl)))))
  (e_TokL
  (e_LokL (e_stL (er_iload_n (i := 3) (x_dk dn_0_11_ok 60 rfl))))
  (e_LokL (e_stL (er_iconst (n := 1) (z := 1) (v := 1) (x_dk dn_0_11_ok 61 rfl) (by decide) (by decide)))))))))
def te_0_1162 (L : Nat) (xs : Nat → Int32) : Nat → eE := (e_T 1667 (e_T 1661 (e_T 1654 (e_T 1652 (e_L 1652 (0, ei_bin eF_add 1653, 0, 0)) (e_T 1653 (e_L 1653 (0, e_S (g_scd L xs 1654), 0, 0)) (e_L 1654 (2, e_nof, 419, 2)))) (e_T 1657 (e_L 1657 (0, ei_stk ef_pop 1658, 0, 0)) (e_T 1658 (e_L 1658 (0, ei_goto 2142, 0, 0)) (e_L 1661 (0, ei_load 1 2 1662, 0, 0))))) (e_T 1664 (e_T 1662 (e_L 1662 (0, ei_load 0 2 1663, 0, 0)) (e_T 1663 (e_L 1663 (0, ei_load 3 0 1664, 0, 0)) (e_L 1664 (0, ei_push (0, 1) 1665, 0, 0)))) (e_T 1665 (e_L 1665 (0, ei_bin eF_add 1666, 0, 0)) (e_T 1666 (e_L 1666 (0, e_S (g_scd L xs 1667), 0, 0)) (e_L 1667 (2, e_nof, 225, 2)))))) (e_T 1675 (e_T 1672 (e_T 1670 (e_L 1670 (0, ei_stk ef_pop 1671, 0, 0)) (e_T 1671 (e_L 1671 (0, ei_load 2 2 1672, 0, 0)) (e_L 1672 (0, ei_load 0 2 1673, 0, 0)))) (e_T 1673 (e_L 1673 (0, ei_load 3 0 1674, 0, 0)) (e_T 1674 (e_L 1674 (0, ei_push (0, 1) 1675, 0, 0)) (e_L 1675 (0, ei_bin eF_add 1676, 0, 0))))) (e_T 1680 (e_T 1676 (e_L 1676 (0, e_S (g_scd L xs 1677), 0, 0)) (e_T 1677 (e_L 1677 (2, e_nof, 436, 2)) (e_L 1680 (0, ei_stk ef_pop 1681, 0, 0)))) (e_T 1681 (e_L 1681 (0, ei_goto 2142, 0, 0)) (e_T 1684 (e_L 1684 (0, ei_load 1 2 1685, 0, 0)) (e_L 1685 (2, e_nof, 226, 1)))))))
set_option maxRecDepth 20000 in
set_option maxHeartbeats 4000000 in
theorem te_0_1162_ok (L : Nat) (xs : Nat → Int32) : ∀ pc, e_EOl L xs pc (te_0_1162 L xs pc) :=
  (e_TokL
  (e_TokL
  (e_TokL
  (e_TokL
  (e_LokL (e_stL (er_iadd (x_dk dn_0_11_ok 62 rfl))))
  (e_TokL
  (e_LokL (Or.inr (Or.inr ⟨rfl, (x_dk dn_0_11_ok 63 rfl)⟩)))
  (e_LokL (e_caL (q' := n_419) rfl (xr_callV (q' := n_419) (ix := 161) (n := 1) (in_t12 (List.mem_of_getElem? (i := 173) rfl) rfl) good_w (in_t1 (List.mem_of_getElem? (i := 14) rfl) rfl) (in_t12 (List.mem_of_getElem? (i := 170) rfl) rfl) (in_t12 (List.mem_of_getElem? (i := 171) rfl) rfl) (in_t12 (List.mem_of_getElem? (i := 172) rfl) rfl) (by decide +kernel) (by decide +kernel) (by decide +kernel) (x_dk dn_0_11_ok 64 rfl))))))
  (e_TokL
  (e_LokL (e_stL (er_pop (x_dk dn_0_11_ok 65 rfl))))
  (e_TokL
  (e_LokL (e_stL (er_goto (off := 484) (tg := 2142) (x_dk dn_0_11_ok 66 rfl) (by decide))))
  (e_LokL (e_stL (er_aload_n (i := 1) (x_dk dn_0_11_ok 67 rfl)))))))
  (e_TokL
  (e_TokL
  (e_LokL (e_stL (er_aload_n (i := 0) (x_dk dn_0_11_ok 68 rfl))))
  (e_TokL
  (e_LokL (e_stL (er_iload_n (i := 3) (x_dk dn_0_11_ok 69 rfl))))
  (e_LokL (e_stL (er_iconst (n := 1) (z := 1) (v := 1) (x_dk dn_0_11_ok 70 rfl) (by decide) (by decide))))))
  (e_TokL
  (e_LokL (e_stL (er_iadd (x_dk dn_0_11_ok 71 rfl))))
  (e_TokL
  (e_LokL (Or.inr (Or.inr ⟨rfl, (x_dk dn_0_11_ok 72 rfl)⟩)))
  (e_LokL (e_caL (q' := n_225) rfl (xr_callV (q' := n_225) (ix := 162) (n := 1) (in_t9 (List.mem_of_getElem? (i := 7) rfl) rfl) good_w (in_t1 (List.mem_of_getElem? (i := 1) rfl) rfl) (in_t9 (List.mem_of_getElem? (i := 4) rfl) rfl) (in_t9 (List.mem_of_getElem? (i := 5) rfl) rfl) (in_t9 (List.mem_of_getElem? (i := 6) rfl) rfl) (by decide +kernel) (by decide +kernel) (by decide +kernel) (x_dk dn_0_11_ok 73 rfl))))))))
  (e_TokL
  (e_TokL
  (e_TokL
  (e_LokL (e_stL (er_pop (x_dk dn_0_11_ok 74 rfl))))
  (e_TokL
  (e_LokL (e_stL (er_aload_n (i := 2) (x_dk dn_0_11_ok 75 rfl))))
  (e_LokL (e_stL (er_aload_n (i := 0) (x_dk dn_0_11_ok 76 rfl))))))
  (e_TokL
  (e_LokL (e_stL (er_iload_n (i := 3) (x_dk dn_0_11_ok 77 rfl))))
  (e_TokL
  (e_LokL (e_stL (er_iconst (n := 1) (z := 1) (v := 1) (x_dk dn_0_11_ok 78 rfl) (by decide) (by decide))))
  (e_LokL (e_stL (er_iadd (x_dk dn_0_11_ok 79 rfl)))))))
  (e_TokL
  (e_TokL
  (e_LokL (Or.inr (Or.inr ⟨rfl, (x_dk dn_0_11_ok 80 rfl)⟩)))
  (e_TokL
  (e_LokL (e_caL (q' := n_436) rfl (xr_callV (q' := n_436) (ix := 165) (n := 1) (in_t13 (List.mem_of_getElem? (i := 187) rfl) rfl) good_w (in_t1 (List.mem_of_getElem? (i := 14) rfl) rfl) (in_t13 (List.mem_of_getElem? (i := 184) rfl) rfl) (in_t13 (List.mem_of_getElem? (i := 185) rfl) rfl) (in_t13 (List.mem_of_getElem? (i := 186) rfl) rfl) (by decide +kernel) (by decide +kernel) (by decide +kernel) (x_dk dn_0_11_ok 81 rfl))))
  (e_LokL (e_stL (er_pop (x_dk dn_0_11_ok 82 rfl))))))
  (e_TokL
  (e_LokL (e_stL (er_goto (off := 461) (tg := 2142) (x_dk dn_0_11_ok 83 rfl) (by decide))))
  (e_TokL
  (e_LokL (e_stL (er_aload_n (i := 1) (x_dk dn_0_11_ok 84 rfl))))
  (e_LokL (e_caL (q' := n_226) rfl (xr_callV (q' := n_226) (ix := 166) (n := 0) (in_t9 (List.mem_of_getElem? (i := 11) rfl) rfl) good_w (in_t1 (List.mem_of_getElem? (i := 1) rfl) rfl) (in_t9 (List.mem_of_getElem? (i := 8) rfl) rfl) (in_t9 (List.mem_of_getElem? (i := 9) rfl) rfl) (in_t9 (List.mem_of_getElem? (i := 10) rfl) rfl) (by decide +kernel) (by decide +kernel) (by decide +kernel) (x_dk dn_0_11_ok 85 rfl)))))))))
def te_0_1186 (L : Nat) (xs : Nat → Int32) : Nat → eE := (e_T 1703 (e_T 1697 (e_T 1690 (e_T 1688 (e_L 1688 (0, ei_stk ef_pop 1689, 0, 0)) (e_T 1689 (e_L 1689 (0, ei_load 2 2 1690, 0, 0)) (e_L 1690 (2, e_nof, 437, 1)))) (e_T 1693 (e_L 1693 (0, ei_stk ef_pop 1694, 0, 0)) (e_T 1694 (e_L 1694 (0, ei_goto 2142, 0, 0)) (e_L 1697 (0, ei_load 1 2 1698, 0, 0))))) (e_T 1700 (e_T 1698 (e_L 1698 (0, ei_load 0 2 1699, 0, 0)) (e_T 1699 (e_L 1699 (0, ei_load 3 0 1700, 0, 0)) (e_L 1700 (0, ei_push (0, 1) 1701, 0, 0)))) (e_T 1701 (e_L 1701 (0, ei_bin eF_add 1702, 0, 0)) (e_T 1702 (e_L 1702 (0, e_S (g_scd L xs 1703), 0, 0)) (e_L 1703 (0, ei_load 0 2 1704, 0, 0)))))) (e_T 1711 (e_T 1706 (e_T 1704 (e_L 1704 (0, ei_load 3 0 1705, 0, 0)) (e_T 1705 (e_L 1705 (0, ei_push (0, 2) 1706, 0, 0)) (e_L 1706 (0, ei_bin eF_add 1707, 0, 0)))) (e_T 1707 (e_L 1707 (0, e_S (g_scd L xs 1708), 0, 0)) (e_T 1708 (e_L 1708 (2, e_nof, 227, 3)) (e_L 1711 (0, ei_stk ef_pop 1712, 0, 0))))) (e_T 1714 (e_T 1712 (e_L 1712 (0, ei_load 2 2 1713, 0, 0)) (e_T 1713 (e_L 1713 (0, ei_load 0 2 1714, 0, 0)) (e_L 1714 (0, ei_load 3 0 1715, 0, 0)))) (e_T 1715 (e_L 1715 (0, ei_push (0, 1) 1716, 0, 0)) (e_T 1716 (e_L 1716 (0, ei_bin eF_add 1717, 0, 0)) (e_L 1717 (0, e_S (g_scd L xs 1718), 0, 0)))))))
set_option maxRecDepth 20000 in
set_option maxHeartbeats 4000000 in
theorem te_0_1186_ok (L : Nat) (xs : Nat → Int32) : ∀ pc, e_EOl L xs pc (te_0_1186 L xs pc) :=
  (e_TokL
  (e_TokL
  (e_TokL
  (e_TokL
  (e_LokL (e_stL (er_pop (x_dk dn_0_11_ok 86 rfl))))
  (e_TokL
  (e_LokL (e_stL (er_aload_n (i := 2) (x_dk dn_0_11_ok 87 rfl))))
  (e_LokL (e_caL (q' := n_437) rfl (xr_callV (q' := n_437) (ix := 169) (n := 0) (in_t13 (List.mem_of_getElem? (i := 207) rfl) rfl) good_w (in_t1 (List.mem_of_getElem? (i := 14) rfl) rfl) (in_t13 (List.mem_of_getElem? (i := 204) rfl) rfl) (in_t13 (List.mem_of_getElem? (i := 205) rfl) rfl) (in_t13 (List.mem_of_getElem? (i := 206) rfl) rfl) (by decide +kernel) (by decide +kernel) (by decide +kernel) (x_dk dn_0_11_ok 88 rfl))))))
  (e_TokL
  (e_LokL (e_stL (er_pop (x_dk dn_0_11_ok 89 rfl))))
  (e_TokL
  (e_LokL (e_stL (er_goto (off := 448) (tg := 2142) (x_dk dn_0_11_ok 90 rfl) (by decide))))
  (e_LokL (e_stL (er_aload_n (i := 1) (x_dk dn_0_11_ok 91 rfl)))))))
  (e_TokL
  (e_TokL
  (e_LokL (e_stL (er_aload_n (i := 0) (x_dk dn_0_11_ok 92 rfl))))
  (e_TokL
  (e_LokL (e_stL (er_iload_n (i := 3) (x_dk dn_0_11_ok 93 rfl))))
  (e_LokL (e_stL (er_iconst (n := 1) (z := 1) (v := 1) (x_dk dn_0_11_ok 94 rfl) (by decide) (by decide))))))
  (e_TokL
  (e_LokL (e_stL (er_iadd (x_dk dn_0_11_ok 95 rfl))))
  (e_TokL
  (e_LokL (Or.inr (Or.inr ⟨rfl, (x_dk dn_0_11_ok 96 rfl)⟩)))
  (e_LokL (e_stL (er_aload_n (i := 0) (x_dk dn_0_11_ok 97 rfl))))))))
  (e_TokL
  (e_TokL
  (e_TokL
  (e_LokL (e_stL (er_iload_n (i := 3) (x_dk dn_0_11_ok 98 rfl))))
  (e_TokL
  (e_LokL (e_stL (er_iconst (n := 2) (z := 2) (v := 2) (x_dk dn_0_11_ok 99 rfl) (by decide) (by decide))))
  (e_LokL (e_stL (er_iadd (x_dk dn_0_12_ok 0 rfl))))))
  (e_TokL
  (e_LokL (Or.inr (Or.inr ⟨rfl, (x_dk dn_0_12_ok 1 rfl)⟩)))
  (e_TokL
  (e_LokL (e_caL (q' := n_227) rfl (xr_callV (q' := n_227) (ix := 170) (n := 2) (in_t9 (List.mem_of_getElem? (i := 15) rfl) rfl) good_w (in_t1 (List.mem_of_getElem? (i := 1) rfl) rfl) (in_t9 (List.mem_of_getElem? (i := 12) rfl) rfl) (in_t9 (List.mem_of_getElem? (i := 13) rfl) rfl) (in_t9 (List.mem_of_getElem? (i := 14) rfl) rfl) (by decide +kernel) (by decide +kernel) (by decide +kernel) (x_dk dn_0_12_ok 2 rfl))))
  (e_LokL (e_stL (er_pop (x_dk dn_0_12_ok 3 rfl)))))))
  (e_TokL
  (e_TokL
  (e_LokL (e_stL (er_aload_n (i := 2) (x_dk dn_0_12_ok 4 rfl))))
  (e_TokL
  (e_LokL (e_stL (er_aload_n (i := 0) (x_dk dn_0_12_ok 5 rfl))))
  (e_LokL (e_stL (er_iload_n (i := 3) (x_dk dn_0_12_ok 6 rfl))))))
  (e_TokL
  (e_LokL (e_stL (er_iconst (n := 1) (z := 1) (v := 1) (x_dk dn_0_12_ok 7 rfl) (by decide) (by decide))))
  (e_TokL
  (e_LokL (e_stL (er_iadd (x_dk dn_0_12_ok 8 rfl))))
  (e_LokL (Or.inr (Or.inr ⟨rfl, (x_dk dn_0_12_ok 9 rfl)⟩))))))))
def te_0_1210 (L : Nat) (xs : Nat → Int32) : Nat → eE := (e_T 1733 (e_T 1723 (e_T 1720 (e_T 1718 (e_L 1718 (0, ei_load 0 2 1719, 0, 0)) (e_T 1719 (e_L 1719 (0, ei_load 3 0 1720, 0, 0)) (e_L 1720 (0, ei_push (0, 2) 1721, 0, 0)))) (e_T 1721 (e_L 1721 (0, ei_bin eF_add 1722, 0, 0)) (e_T 1722 (e_L 1722 (0, e_S (g_scd L xs 1723), 0, 0)) (e_L 1723 (2, e_nof, 438, 3))))) (e_T 1730 (e_T 1726 (e_L 1726 (0, ei_stk ef_pop 1727, 0, 0)) (e_T 1727 (e_L 1727 (0, ei_goto 2142, 0, 0)) (e_L 1730 (0, ei_load 1 2 1731, 0, 0)))) (e_T 1731 (e_L 1731 (0, ei_load 0 2 1732, 0, 0)) (e_T 1732 (e_L 1732 (0, ei_load 3 0 1733, 0, 0)) (e_L 1733 (0, ei_push (0, 1) 1734, 0, 0)))))) (e_T 1739 (e_T 1736 (e_T 1734 (e_L 1734 (0, ei_bin eF_add 1735, 0, 0)) (e_T 1735 (e_L 1735 (0, e_S (g_scd L xs 1736), 0, 0)) (e_L 1736 (0, ei_load 0 2 1737, 0, 0)))) (e_T 1737 (e_L 1737 (0, ei_load 3 0 1738, 0, 0)) (e_T 1738 (e_L 1738 (0, ei_push (0, 2) 1739, 0, 0)) (e_L 1739 (0, ei_bin eF_add 1740, 0, 0))))) (e_T 1744 (e_T 1740 (e_L 1740 (0, e_S (g_scd L xs 1741), 0, 0)) (e_T 1741 (e_L 1741 (2, e_nof, 228, 3)) (e_L 1744 (0, ei_stk ef_pop 1745, 0, 0)))) (e_T 1745 (e_L 1745 (0, ei_load 2 2 1746, 0, 0)) (e_T 1746 (e_L 1746 (0, ei_load 0 2 1747, 0, 0)) (e_L 1747 (0, ei_load 3 0 1748, 0, 0)))))))
set_option maxRecDepth 20000 in
set_option maxHeartbeats 4000000 in
theorem te_0_1210_ok (L : Nat) (xs : Nat → Int32) : ∀ pc, e_EOl L xs pc (te_0_1210 L xs pc) :=
  (e_TokL
  (e_TokL
  (e_TokL
  (e_TokL
  (e_LokL (e_stL (er_aload_n (i := 0) (x_dk dn_0_12_ok 10 rfl))))
  (e_TokL
  (e_LokL (e_stL (er_iload_n (i := 3) (x_dk dn_0_12_ok 11 rfl))))
  (e_LokL (e_stL (er_iconst (n := 2) (z := 2) (v := 2) (x_dk dn_0_12_ok 12 rfl) (by decide) (by decide))))))
  (e_TokL
  (e_LokL (e_stL (er_iadd (x_dk dn_0_12_ok 13 rfl))))
  (e_TokL
  (e_LokL (Or.inr (Or.inr ⟨rfl, (x_dk dn_0_12_ok 14 rfl)⟩)))
  (e_LokL (e_caL (q' := n_438) rfl (xr_callV (q' := n_438) (ix := 173) (n := 2) (in_t13 (List.mem_of_getElem? (i := 211) rfl) rfl) good_w (in_t1 (List.mem_of_getElem? (i := 14) rfl) rfl) (in_t13 (List.mem_of_getElem? (i := 208) rfl) rfl) (in_t13 (List.mem_of_getElem? (i := 209) rfl) rfl) (in_t13 (List.mem_of_getElem? (i := 210) rfl) rfl) (by decide +kernel) (by decide +kernel) (by decide +kernel) (x_dk dn_0_12_ok 15 rfl)))))))
  (e_TokL
  (e_TokL
  (e_LokL (e_stL (er_pop (x_dk dn_0_12_ok 16 rfl))))
  (e_TokL
  (e_LokL (e_stL (er_goto (off := 415) (tg := 2142) (x_dk dn_0_12_ok 17 rfl) (by decide))))
  (e_LokL (e_stL (er_aload_n (i := 1) (x_dk dn_0_12_ok 18 rfl))))))
  (e_TokL
  (e_LokL (e_stL (er_aload_n (i := 0) (x_dk dn_0_12_ok 19 rfl))))
  (e_TokL
  (e_LokL (e_stL (er_iload_n (i := 3) (x_dk dn_0_12_ok 20 rfl))))
  (e_LokL (e_stL (er_iconst (n := 1) (z := 1) (v := 1) (x_dk dn_0_12_ok 21 rfl) (by decide) (by decide))))))))
  (e_TokL
  (e_TokL
  (e_TokL
  (e_LokL (e_stL (er_iadd (x_dk dn_0_12_ok 22 rfl))))
  (e_TokL
  (e_LokL (Or.inr (Or.inr ⟨rfl, (x_dk dn_0_12_ok 23 rfl)⟩)))
  (e_LokL (e_stL (er_aload_n (i := 0) (x_dk dn_0_12_ok 24 rfl))))))
  (e_TokL
  (e_LokL (e_stL (er_iload_n (i := 3) (x_dk dn_0_12_ok 25 rfl))))
  (e_TokL
  (e_LokL (e_stL (er_iconst (n := 2) (z := 2) (v := 2) (x_dk dn_0_12_ok 26 rfl) (by decide) (by decide))))
  (e_LokL (e_stL (er_iadd (x_dk dn_0_12_ok 27 rfl)))))))
  (e_TokL
  (e_TokL
  (e_LokL (Or.inr (Or.inr ⟨rfl, (x_dk dn_0_12_ok 28 rfl)⟩)))
  (e_TokL
  (e_LokL (e_caL (q' := n_228) rfl (xr_callV (q' := n_228) (ix := 174) (n := 2) (in_t9 (List.mem_of_getElem? (i := 20) rfl) rfl) good_w (in_t1 (List.mem_of_getElem? (i := 1) rfl) rfl) (in_t9 (List.mem_of_getElem? (i := 17) rfl) rfl) (in_t9 (List.mem_of_getElem? (i := 18) rfl) rfl) (in_t9 (List.mem_of_getElem? (i := 19) rfl) rfl) (by decide +kernel) (by decide +kernel) (by decide +kernel) (x_dk dn_0_12_ok 29 rfl))))
  (e_LokL (e_stL (er_pop (x_dk dn_0_12_ok 30 rfl))))))
  (e_TokL
  (e_LokL (e_stL (er_aload_n (i := 2) (x_dk dn_0_12_ok 31 rfl))))
  (e_TokL
  (e_LokL (e_stL (er_aload_n (i := 0) (x_dk dn_0_12_ok 32 rfl))))
  (e_LokL (e_stL (er_iload_n (i := 3) (x_dk dn_0_12_ok 33 rfl)))))))))
def te_0_1234 (L : Nat) (xs : Nat → Int32) : Nat → eE := (e_T 1763 (e_T 1753 (e_T 1750 (e_T 1748 (e_L 1748 (0, ei_push (0, 1) 1749, 0, 0)) (e_T 1749 (e_L 1749 (0, ei_bin eF_add 1750, 0, 0)) (e_L 1750 (0, e_S (g_scd L xs 1751), 0, 0)))) (e_T 1751 (e_L 1751 (0, ei_load 0 2 1752, 0, 0)) (e_T 1752 (e_L 1752 (0, ei_load 3 0 1753, 0, 0)) (e_L 1753 (0, ei_push (0, 2) 1754, 0, 0))))) (e_T 1756 (e_T 1754 (e_L 1754 (0, ei_bin eF_add 1755, 0, 0)) (e_T 1755 (e_L 1755 (0, e_S (g_scd L xs 1756), 0, 0)) (e_L 1756 (2, e_nof, 439, 3)))) (e_T 1759 (e_L 1759 (0, ei_stk ef_pop 1760, 0, 0)) (e_T 1760 (e_L 1760 (0, ei_goto 2142, 0, 0)) (e_L 1763 (0, ei_load 1 2 1764, 0, 0)))))) (e_T 1769 (e_T 1766 (e_T 1764 (e_L 1764 (0, ei_load 0 2 1765, 0, 0)) (e_T 1765 (e_L 1765 (0, ei_load 3 0 1766, 0, 0)) (e_L 1766 (0, ei_push (0, 1) 1767, 0, 0)))) (e_T 1767 (e_L 1767 (0, ei_bin eF_add 1768, 0, 0)) (e_T 1768 (e_L 1768 (0, e_S (g_scd L xs 1769), 0, 0)) (e_L 1769 (0, ei_load 0 2 1770, 0, 0))))) (e_T 1772 (e_T 1770 (e_L 1770 (0, ei_load 3 0 1771, 0, 0)) (e_T 1771 (e_L 1771 (0, ei_push (0, 2) 1772, 0, 0)) (e_L 1772 (0, ei_bin eF_add 1773, 0, 0)))) (e_T 1774 (e_T 1773 (e_L 1773 (0, e_S (g_scd L xs 1774), 0, 0)) (e_L 1774 (0, ei_load 0 2 1775, 0, 0))) (e_T 1775 (e_L 1775 (0, ei_load 3 0 1776, 0, 0)) (e_L 1776 (0, ei_push (0, 3) 1777, 0, 0)))))))
set_option maxRecDepth 20000 in
set_option maxHeartbeats 4000000 in
theorem te_0_1234_ok (L : Nat) (xs : Nat → Int32) : ∀ pc, e_EOl L xs pc (te_0_1234 L xs pc) :=
  (e_TokL
  (e_TokL
  (e_TokL
  (e_TokL
  (e_LokL (e_stL (er_iconst (n := 1) (z := 1) (v := 1) (x_dk dn_0_12_ok 34 rfl) (by decide) (by decide))))
  (e_TokL
  (e_LokL (e_stL (er_iadd (x_dk dn_0_12_ok 35 rfl))))
  (e_LokL (Or.inr (Or.inr ⟨rfl, (x_dk dn_0_12_ok 36 rfl)⟩)))))
  (e_TokL
  (e_LokL (e_stL (er_aload_n (i := 0) (x_dk dn_0_12_ok 37 rfl))))
  (e_TokL
  (e_LokL (e_stL (er_iload_n (i := 3) (x_dk dn_0_12_ok 38 rfl))))
  (e_LokL (e_stL (er_iconst (n := 2) (z := 2) (v := 2) (x_dk dn_0_12_ok 39 rfl) (by decide) (by decide)))))))
  (e_TokL
  (e_TokL
  (e_LokL (e_stL (er_iadd (x_dk dn_0_12_ok 40 rfl))))
  (e_TokL
  (e_LokL (Or.inr (Or.inr ⟨rfl, (x_dk dn_0_12_ok 41 rfl)⟩)))
  (e_LokL (e_caL (q' := n_439) rfl (xr_callV (q' := n_439) (ix := 177) (n := 2) (in_t13 (List.mem_of_getElem? (i := 215) rfl) rfl) good_w (in_t1 (List.mem_of_getElem? (i := 14) rfl) rfl) (in_t13 (List.mem_of_getElem? (i := 212) rfl) rfl) (in_t13 (List.mem_of_getElem? (i := 213) rfl) rfl) (in_t13 (List.mem_of_getElem? (i := 214) rfl) rfl) (by decide +kernel) (by decide +kernel) (by decide +kernel) (x_dk dn_0_12_ok 42 rfl))))))
  (e_TokL
  (e_LokL (e_stL (er_pop (x_dk dn_0_12_ok 43 rfl))))
  (e_TokL
  (e_LokL (e_stL (er_goto (off := 382) (tg := 2142) (x_dk dn_0_12_ok 44 rfl) (by decide))))
  (e_LokL (e_stL (er_aload_n (i := 1) (x_dk dn_0_12_ok 45 rfl))))))))
  (e_TokL
  (e_TokL
  (e_TokL
  (e_LokL (e_stL (er_aload_n (i := 0) (x_dk dn_0_12_ok 46 rfl))))
  (e_TokL
  (e_LokL (e_stL (er_iload_n (i := 3) (x_dk dn_0_12_ok 47 rfl))))
  (e_LokL (e_stL (er_iconst (n := 1) (z := 1) (v := 1) (x_dk dn_0_12_ok 48 rfl) (by decide) (by decide))))))
  (e_TokL
  (e_LokL (e_stL (er_iadd (x_dk dn_0_12_ok 49 rfl))))
  (e_TokL
  (e_LokL (Or.inr (Or.inr ⟨rfl, (x_dk dn_0_12_ok 50 rfl)⟩)))
  (e_LokL (e_stL (er_aload_n (i := 0) (x_dk dn_0_12_ok 51 rfl)))))))
  (e_TokL
  (e_TokL
  (e_LokL (e_stL (er_iload_n (i := 3) (x_dk dn_0_12_ok 52 rfl))))
  (e_TokL
  (e_LokL (e_stL (er_iconst (n := 2) (z := 2) (v := 2) (x_dk dn_0_12_ok 53 rfl) (by decide) (by decide))))
  (e_LokL (e_stL (er_iadd (x_dk dn_0_12_ok 54 rfl))))))
  (e_TokL
  (e_TokL
  (e_LokL (Or.inr (Or.inr ⟨rfl, (x_dk dn_0_12_ok 55 rfl)⟩)))
  (e_LokL (e_stL (er_aload_n (i := 0) (x_dk dn_0_12_ok 56 rfl)))))
  (e_TokL
  (e_LokL (e_stL (er_iload_n (i := 3) (x_dk dn_0_12_ok 57 rfl))))
  (e_LokL (e_stL (er_iconst (n := 3) (z := 3) (v := 3) (x_dk dn_0_12_ok 58 rfl) (by decide) (by decide)))))))))
def te_0_1259 (L : Nat) (xs : Nat → Int32) : Nat → eE := (e_T 1790 (e_T 1784 (e_T 1779 (e_T 1777 (e_L 1777 (0, ei_bin eF_add 1778, 0, 0)) (e_T 1778 (e_L 1778 (0, e_S (g_scd L xs 1779), 0, 0)) (e_L 1779 (2, e_nof, 229, 4)))) (e_T 1782 (e_L 1782 (0, ei_stk ef_pop 1783, 0, 0)) (e_T 1783 (e_L 1783 (0, ei_load 2 2 1784, 0, 0)) (e_L 1784 (0, ei_load 0 2 1785, 0, 0))))) (e_T 1787 (e_T 1785 (e_L 1785 (0, ei_load 3 0 1786, 0, 0)) (e_T 1786 (e_L 1786 (0, ei_push (0, 1) 1787, 0, 0)) (e_L 1787 (0, ei_bin eF_add 1788, 0, 0)))) (e_T 1788 (e_L 1788 (0, e_S (g_scd L xs 1789), 0, 0)) (e_T 1789 (e_L 1789 (0, ei_load 0 2 1790, 0, 0)) (e_L 1790 (0, ei_load 3 0 1791, 0, 0)))))) (e_T 1796 (e_T 1793 (e_T 1791 (e_L 1791 (0, ei_push (0, 2) 1792, 0, 0)) (e_T 1792 (e_L 1792 (0, ei_bin eF_add 1793, 0, 0)) (e_L 1793 (0, e_S (g_scd L xs 1794), 0, 0)))) (e_T 1794 (e_L 1794 (0, ei_load 0 2 1795, 0, 0)) (e_T 1795 (e_L 1795 (0, ei_load 3 0 1796, 0, 0)) (e_L 1796 (0, ei_push (0, 3) 1797, 0, 0))))) (e_T 1799 (e_T 1797 (e_L 1797 (0, ei_bin eF_add 1798, 0, 0)) (e_T 1798 (e_L 1798 (0, e_S (g_scd L xs 1799), 0, 0)) (e_L 1799 (2, e_nof, 440, 4)))) (e_T 1802 (e_L 1802 (0, ei_stk ef_pop 1803, 0, 0)) (e_T 1803 (e_L 1803 (0, ei_goto 2142, 0, 0)) (e_L 1806 (0, ei_load 1 2 1807, 0, 0)))))))
set_option maxRecDepth 20000 in
set_option maxHeartbeats 4000000 in
theorem te_0_1259_ok (L : Nat) (xs : Nat → Int32) : ∀ pc, e_EOl L xs pc (te_0_1259 L xs pc) :=
  (e_TokL
  (e_TokL
  (e_TokL
  (e_TokL
  (e_LokL (e_stL (er_iadd (x_dk dn_0_12_ok 59 rfl))))
  (e_TokL
  (e_LokL (Or.inr (Or.inr ⟨rfl, (x_dk dn_0_12_ok 60 rfl)⟩)))
  (e_LokL (e_caL (q' := n_229) rfl (xr_callV (q' := n_229) (ix := 178) (n := 3) (in_t9 (List.mem_of_getElem? (i := 24) rfl) rfl) good_w (in_t1 (List.mem_of_getElem? (i := 1) rfl) rfl) (in_t9 (List.mem_of_getElem? (i := 21) rfl) rfl) (in_t9 (List.mem_of_getElem? (i := 22) rfl) rfl) (in_t9 (List.mem_of_getElem? (i := 23) rfl) rfl) (by decide +kernel) (by decide +kernel) (by decide +kernel) (x_dk dn_0_12_ok 61 rfl))))))
  (e_TokL
  (e_LokL (e_stL (er_pop (x_dk dn_0_12_ok 62 rfl))))
  (e_TokL
  (e_LokL (e_stL (er_aload_n (i := 2) (x_dk dn_0_12_ok 63 rfl))))
  (e_LokL (e_stL (er_aload_n (i := 0) (x_dk dn_0_12_ok 64 rfl)))))))
  (e_TokL
  (e_TokL
  (e_LokL (e_stL (er_iload_n (i := 3) (x_dk dn_0_12_ok 65 rfl))))
  (e_TokL
  (e_LokL (e_stL (er_iconst (n := 1) (z := 1) (v := 1) (x_dk dn_0_12_ok 66 rfl) (by decide) (by decide))))
  (e_LokL (e_stL (er_iadd (x_dk dn_0_12_ok 67 rfl))))))
  (e_TokL
  (e_LokL (Or.inr (Or.inr ⟨rfl, (x_dk dn_0_12_ok 68 rfl)⟩)))
  (e_TokL
  (e_LokL (e_stL (er_aload_n (i := 0) (x_dk dn_0_12_ok 69 rfl))))
  (e_LokL (e_stL (er_iload_n (i := 3) (x_dk dn_0_12_ok 70 rfl))))))))
  (e_TokL
  (e_TokL
  (e_TokL
  (e_LokL (e_stL (er_iconst (n := 2) (z := 2) (v := 2) (x_dk dn_0_12_ok 71 rfl) (by decide) (by decide))))
  (e_TokL
  (e_LokL (e_stL (er_iadd (x_dk dn_0_12_ok 72 rfl))))
  (e_LokL (Or.inr (Or.inr ⟨rfl, (x_dk dn_0_12_ok 73 rfl)⟩)))))
  (e_TokL
  (e_LokL (e_stL (er_aload_n (i := 0) (x_dk dn_0_12_ok 74 rfl))))
  (e_TokL
  (e_LokL (e_stL (er_iload_n (i := 3) (x_dk dn_0_12_ok 75 rfl))))
  (e_LokL (e_stL (er_iconst (n := 3) (z := 3) (v := 3) (x_dk dn_0_12_ok 76 rfl) (by decide) (by decide)))))))
  (e_TokL
  (e_TokL
  (e_LokL (e_stL (er_iadd (x_dk dn_0_12_ok 77 rfl))))
  (e_TokL
  (e_LokL (Or.inr (Or.inr ⟨rfl, (x_dk dn_0_12_ok 78 rfl)⟩)))
  (e_LokL (e_caL (q' := n_440) rfl (xr_callV (q' := n_440) (ix := 181) (n := 3) (in_t13 (List.mem_of_getElem? (i := 219) rfl) rfl) good_w (in_t1 (List.mem_of_getElem? (i := 14) rfl) rfl) (in_t13 (List.mem_of_getElem? (i := 216) rfl) rfl) (in_t13 (List.mem_of_getElem? (i := 217) rfl) rfl) (in_t13 (List.mem_of_getElem? (i := 218) rfl) rfl) (by decide +kernel) (by decide +kernel) (by decide +kernel) (x_dk dn_0_12_ok 79 rfl))))))
  (e_TokL
  (e_LokL (e_stL (er_pop (x_dk dn_0_12_ok 80 rfl))))
  (e_TokL
  (e_LokL (e_stL (er_goto (off := 339) (tg := 2142) (x_dk dn_0_12_ok 81 rfl) (by decide))))
  (e_LokL (e_stL (er_aload_n (i := 1) (x_dk dn_0_12_ok 82 rfl)))))))))
def te_0_1283 (L : Nat) (xs : Nat → Int32) : Nat → eE := (e_T 1820 (e_T 1812 (e_T 1809 (e_T 1807 (e_L 1807 (0, ei_load 0 2 1808, 0, 0)) (e_T 1808 (e_L 1808 (0, ei_load 3 0 1809, 0, 0)) (e_L 1809 (0, ei_push (0, 1) 1810, 0, 0)))) (e_T 1810 (e_L 1810 (0, ei_bin eF_add 1811, 0, 0)) (e_T 1811 (e_L 1811 (0, e_S (g_scd L xs 1812), 0, 0)) (e_L 1812 (0, ei_load 0 2 1813, 0, 0))))) (e_T 1815 (e_T 1813 (e_L 1813 (0, ei_load 3 0 1814, 0, 0)) (e_T 1814 (e_L 1814 (0, ei_push (0, 2) 1815, 0, 0)) (e_L 1815 (0, ei_bin eF_add 1816, 0, 0)))) (e_T 1816 (e_L 1816 (0, e_S (g_scd L xs 1817), 0, 0)) (e_T 1817 (e_L 1817 (2, e_nof, 230, 3)) (e_L 1820 (0, ei_stk ef_pop 1821, 0, 0)))))) (e_T 1826 (e_T 1823 (e_T 1821 (e_L 1821 (0, ei_load 2 2 1822, 0, 0)) (e_T 1822 (e_L 1822 (0, ei_load 0 2 1823, 0, 0)) (e_L 1823 (0, ei_load 3 0 1824, 0, 0)))) (e_T 1824 (e_L 1824 (0, ei_push (0, 1) 1825, 0, 0)) (e_T 1825 (e_L 1825 (0, ei_bin eF_add 1826, 0, 0)) (e_L 1826 (0, e_S (g_scd L xs 1827), 0, 0))))) (e_T 1829 (e_T 1827 (e_L 1827 (0, ei_load 0 2 1828, 0, 0)) (e_T 1828 (e_L 1828 (0, ei_load 3 0 1829, 0, 0)) (e_L 1829 (0, ei_push (0, 2) 1830, 0, 0)))) (e_T 1830 (e_L 1830 (0, ei_bin eF_add 1831, 0, 0)) (e_T 1831 (e_L 1831 (0, e_S (g_scd L xs 1832), 0, 0)) (e_L 1832 (2, e_nof, 441, 3)))))))
set_option maxRecDepth 20000 in
set_option maxHeartbeats 4000000 in
theorem te_0_1283_ok (L : Nat) (xs : Nat → Int32) : ∀ pc, e_EOl L xs pc (te_0_1283 L xs pc) :=
  (e_TokL
  (e_TokL
  (e_TokL
  (e_TokL
  (e_LokL (e_stL (er_aload_n (i := 0) (x_dk dn_0_12_ok 83 rfl))))
  (e_TokL
  (e_LokL (e_stL (er_iload_n (i := 3) (x_dk dn_0_12_ok 84 rfl))))
  (e_LokL (e_stL (er_iconst (n := 1) (z := 1) (v := 1) (x_dk dn_0_12_ok 85 rfl) (by decide) (by decide))))))
  (e_TokL
  (e_LokL (e_stL (er_iadd (x_dk dn_0_12_ok 86 rfl))))
  (e_TokL
  (e_LokL (Or.inr (Or.inr ⟨rfl, (x_dk dn_0_12_ok 87 rfl)⟩)))
  (e_LokL (e_stL (er_aload_n (i := 0) (x_dk dn_0_12_ok 88 rfl)))))))
  (e_TokL
  (e_TokL
  (e_LokL (e_stL (er_iload_n (i := 3) (x_dk dn_0_12_ok 89 rfl))))
  (e_TokL
  (e_LokL (e_stL (er_iconst (n := 2) (z := 2) (v := 2) (x_dk dn_0_12_ok 90 rfl) (by decide) (by decide))))
  (e_LokL (e_stL (er_iadd (x_dk dn_0_12_ok 91 rfl))))))
  (e_TokL
  (e_LokL (Or.inr (Or.inr ⟨rfl, (x_dk dn_0_12_ok 92 rfl)⟩)))
  (e_TokL
  (e_LokL (e_caL (q' := n_230) rfl (xr_callV (q' := n_230) (ix := 182) (n := 2) (in_t9 (List.mem_of_getElem? (i := 28) rfl) rfl) good_w (in_t1 (List.mem_of_getElem? (i := 1) rfl) rfl) (in_t9 (List.mem_of_getElem? (i := 25) rfl) rfl) (in_t9 (List.mem_of_getElem? (i := 26) rfl) rfl) (in_t9 (List.mem_of_getElem? (i := 27) rfl) rfl) (by decide +kernel) (by decide +kernel) (by decide +kernel) (x_dk dn_0_12_ok 93 rfl))))
  (e_LokL (e_stL (er_pop (x_dk dn_0_12_ok 94 rfl))))))))
  (e_TokL
  (e_TokL
  (e_TokL
  (e_LokL (e_stL (er_aload_n (i := 2) (x_dk dn_0_12_ok 95 rfl))))
  (e_TokL
  (e_LokL (e_stL (er_aload_n (i := 0) (x_dk dn_0_12_ok 96 rfl))))
  (e_LokL (e_stL (er_iload_n (i := 3) (x_dk dn_0_12_ok 97 rfl))))))
  (e_TokL
  (e_LokL (e_stL (er_iconst (n := 1) (z := 1) (v := 1) (x_dk dn_0_12_ok 98 rfl) (by decide) (by decide))))
  (e_TokL
  (e_LokL (e_stL (er_iadd (x_dk dn_0_12_ok 99 rfl))))
  (e_LokL (Or.inr (Or.inr ⟨rfl, (x_dk dn_0_13_ok 0 rfl)⟩))))))
  (e_TokL
  (e_TokL
  (e_LokL (e_stL (er_aload_n (i := 0) (x_dk dn_0_13_ok 1 rfl))))
  (e_TokL
  (e_LokL (e_stL (er_iload_n (i := 3) (x_dk dn_0_13_ok 2 rfl))))
  (e_LokL (e_stL (er_iconst (n := 2) (z := 2) (v := 2) (x_dk dn_0_13_ok 3 rfl) (by decide) (by decide))))))
  (e_TokL
  (e_LokL (e_stL (er_iadd (x_dk dn_0_13_ok 4 rfl))))
  (e_TokL
  (e_LokL (Or.inr (Or.inr ⟨rfl, (x_dk dn_0_13_ok 5 rfl)⟩)))
  (e_LokL (e_caL (q' := n_441) rfl (xr_callV (q' := n_441) (ix := 185) (n := 2) (in_t13 (List.mem_of_getElem? (i := 223) rfl) rfl) good_w (in_t1 (List.mem_of_getElem? (i := 14) rfl) rfl) (in_t13 (List.mem_of_getElem? (i := 220) rfl) rfl) (in_t13 (List.mem_of_getElem? (i := 221) rfl) rfl) (in_t13 (List.mem_of_getElem? (i := 222) rfl) rfl) (by decide +kernel) (by decide +kernel) (by decide +kernel) (x_dk dn_0_13_ok 6 rfl)))))))))
def te_0_1307 (L : Nat) (xs : Nat → Int32) : Nat → eE := (e_T 1848 (e_T 1842 (e_T 1839 (e_T 1835 (e_L 1835 (0, ei_stk ef_pop 1836, 0, 0)) (e_T 1836 (e_L 1836 (0, ei_goto 2142, 0, 0)) (e_L 1839 (0, ei_load 1 2 1840, 0, 0)))) (e_T 1840 (e_L 1840 (0, ei_load 0 2 1841, 0, 0)) (e_T 1841 (e_L 1841 (0, ei_load 3 0 1842, 0, 0)) (e_L 1842 (0, ei_push (0, 1) 1843, 0, 0))))) (e_T 1845 (e_T 1843 (e_L 1843 (0, ei_bin eF_add 1844, 0, 0)) (e_T 1844 (e_L 1844 (0, e_S (g_scd L xs 1845), 0, 0)) (e_L 1845 (0, ei_load 0 2 1846, 0, 0)))) (e_T 1846 (e_L 1846 (0, ei_load 3 0 1847, 0, 0)) (e_T 1847 (e_L 1847 (0, ei_push (0, 2) 1848, 0, 0)) (e_L 1848 (0, ei_bin eF_add 1849, 0, 0)))))) (e_T 1856 (e_T 1853 (e_T 1849 (e_L 1849 (0, e_S (g_scd L xs 1850), 0, 0)) (e_T 1850 (e_L 1850 (2, e_nof, 231, 3)) (e_L 1853 (0, ei_stk ef_pop 1854, 0, 0)))) (e_T 1854 (e_L 1854 (0, ei_load 2 2 1855, 0, 0)) (e_T 1855 (e_L 1855 (0, ei_load 0 2 1856, 0, 0)) (e_L 1856 (0, ei_load 3 0 1857, 0, 0))))) (e_T 1859 (e_T 1857 (e_L 1857 (0, ei_push (0, 1) 1858, 0, 0)) (e_T 1858 (e_L 1858 (0, ei_bin eF_add 1859, 0, 0)) (e_L 1859 (0, e_S (g_scd L xs 1860), 0, 0)))) (e_T 1860 (e_L 1860 (0, ei_load 0 2 1861, 0, 0)) (e_T 1861 (e_L 1861 (0, ei_load 3 0 1862, 0, 0)) (e_L 1862 (0, ei_push (0, 2) 1863, 0, 0)))))))
set_option maxRecDepth 20000 in
set_option maxHeartbeats 4000000 in
theorem te_0_1307_ok (L : Nat) (xs : Nat → Int32) : ∀ pc, e_EOl L xs pc (te_0_1307 L xs pc) :=
  (e_TokL
  (e_TokL
  (e_TokL
  (e_TokL
  (e_LokL (e_stL (er_pop (x_dk dn_0_13_ok 7 rfl))))
  (e_TokL
  (e_LokL (e_stL (er_goto (off := 306) (tg := 2142) (x_dk dn_0_13_ok 8 rfl) (by decide))))
  (e_LokL (e_stL (er_aload_n (i := 1) (x_dk dn_0_13_ok 9 rfl))))))
  (e_TokL
  (e_LokL (e_stL (er_aload_n (i := 0) (x_dk dn_0_13_ok 10 rfl))))
  (e_TokL
  (e_LokL (e_stL (er_iload_n (i := 3) (x_dk dn_0_13_ok 11 rfl))))
  (e_LokL (e_stL (er_iconst (n := 1) (z := 1) (v := 1) (x_dk dn_0_13_ok 12 rfl) (by decide) (by decide)))))))
  (e_TokL
  (e_TokL
  (e_LokL (e_stL (er_iadd (x_dk dn_0_13_ok 13 rfl))))
  (e_TokL
  (e_LokL (Or.inr (Or.inr ⟨rfl, (x_dk dn_0_13_ok 14 rfl)⟩)))
  (e_LokL (e_stL (er_aload_n (i := 0) (x_dk dn_0_13_ok 15 rfl))))))
  (e_TokL
  (e_LokL (e_stL (er_iload_n (i := 3) (x_dk dn_0_13_ok 16 rfl))))
  (e_TokL
  (e_LokL (e_stL (er_iconst (n := 2) (z := 2) (v := 2) (x_dk dn_0_13_ok 17 rfl) (by decide) (by decide))))
  (e_LokL (e_stL (er_iadd (x_dk dn_0_13_ok 18 rfl))))))))
  (e_TokL
  (e_TokL
  (e_TokL
  (e_LokL (Or.inr (Or.inr ⟨rfl, (x_dk dn_0_13_ok 19 rfl)⟩)))
  (e_TokL
  (e_LokL (e_caL (q' := n_231) rfl (xr_callV (q' := n_231) (ix := 186) (n := 2) (in_t9 (List.mem_of_getElem? (i := 33) rfl) rfl) good_w (in_t1 (List.mem_of_getElem? (i := 1) rfl) rfl) (in_t9 (List.mem_of_getElem? (i := 30) rfl) rfl) (in_t9 (List.mem_of_getElem? (i := 31) rfl) rfl) (in_t9 (List.mem_of_getElem? (i := 32) rfl) rfl) (by decide +kernel) (by decide +kernel) (by decide +kernel) (x_dk dn_0_13_ok 20 rfl))))
  (e_LokL (e_stL (er_pop (x_dk dn_0_13_ok 21 rfl))))))
  (e_TokL
  (e_LokL (e_stL (er_aload_n (i := 2) (x_dk dn_0_13_ok 22 rfl))))
  (e_TokL
  (e_LokL (e_stL (er_aload_n (i := 0) (x_dk dn_0_13_ok 23 rfl))))
  (e_LokL (e_stL (er_iload_n (i := 3) (x_dk dn_0_13_ok 24 rfl)))))))
  (e_TokL
  (e_TokL
  (e_LokL (e_stL (er_iconst (n := 1) (z := 1) (v := 1) (x_dk dn_0_13_ok 25 rfl) (by decide) (by decide))))
  (e_TokL
  (e_LokL (e_stL (er_iadd (x_dk dn_0_13_ok 26 rfl))))
  (e_LokL (Or.inr (Or.inr ⟨rfl, (x_dk dn_0_13_ok 27 rfl)⟩)))))
  (e_TokL
  (e_LokL (e_stL (er_aload_n (i := 0) (x_dk dn_0_13_ok 28 rfl))))
  (e_TokL
  (e_LokL (e_stL (er_iload_n (i := 3) (x_dk dn_0_13_ok 29 rfl))))
  (e_LokL (e_stL (er_iconst (n := 2) (z := 2) (v := 2) (x_dk dn_0_13_ok 30 rfl) (by decide) (by decide)))))))))
def te_0_1331 (L : Nat) (xs : Nat → Int32) : Nat → eE := (e_T 1878 (e_T 1872 (e_T 1865 (e_T 1863 (e_L 1863 (0, ei_bin eF_add 1864, 0, 0)) (e_T 1864 (e_L 1864 (0, e_S (g_scd L xs 1865), 0, 0)) (e_L 1865 (2, e_nof, 442, 3)))) (e_T 1868 (e_L 1868 (0, ei_stk ef_pop 1869, 0, 0)) (e_T 1869 (e_L 1869 (0, ei_goto 2142, 0, 0)) (e_L 1872 (0, ei_load 1 2 1873, 0, 0))))) (e_T 1875 (e_T 1873 (e_L 1873 (0, ei_load 0 2 1874, 0, 0)) (e_T 1874 (e_L 1874 (0, ei_load 3 0 1875, 0, 0)) (e_L 1875 (0, ei_push (0, 1) 1876, 0, 0)))) (e_T 1876 (e_L 1876 (0, ei_bin eF_add 1877, 0, 0)) (e_T 1877 (e_L 1877 (0, e_S (g_scd L xs 1878), 0, 0)) (e_L 1878 (0, ei_load 0 2 1879, 0, 0)))))) (e_T 1886 (e_T 1881 (e_T 1879 (e_L 1879 (0, ei_load 3 0 1880, 0, 0)) (e_T 1880 (e_L 1880 (0, ei_push (0, 2) 1881, 0, 0)) (e_L 1881 (0, ei_bin eF_add 1882, 0, 0)))) (e_T 1882 (e_L 1882 (0, e_S (g_scd L xs 1883), 0, 0)) (e_T 1883 (e_L 1883 (2, e_nof, 232, 3)) (e_L 1886 (0, ei_stk ef_pop 1887, 0, 0))))) (e_T 1889 (e_T 1887 (e_L 1887 (0, ei_load 2 2 1888, 0, 0)) (e_T 1888 (e_L 1888 (0, ei_load 0 2 1889, 0, 0)) (e_L 1889 (0, ei_load 3 0 1890, 0, 0)))) (e_T 1891 (e_T 1890 (e_L 1890 (0, ei_push (0, 1) 1891, 0, 0)) (e_L 1891 (0, ei_bin eF_add 1892, 0, 0))) (e_T 1892 (e_L 1892 (0, e_S (g_scd L xs 1893), 0, 0)) (e_L 1893 (0, ei_load 0 2 1894, 0, 0)))))))
set_option maxRecDepth 20000 in
set_option maxHeartbeats 4000000 in
theorem te_0_1331_ok (L : Nat) (xs : Nat → Int32) : ∀ pc, e_EOl L xs pc (te_0_1331 L xs pc) :=
  (e_TokL
  (e_TokL
  (e_TokL
  (e_TokL
  (e_LokL (e_stL (er_iadd (x_dk dn_0_13_ok 31 rfl))))
  (e_TokL
  (e_LokL (Or.inr (Or.inr ⟨rfl, (x_dk dn_0_13_ok 32 rfl)⟩)))
  (e_LokL (e_caL (q' := n_442) rfl (xr_callV (q' := n_442) (ix := 189) (n := 2) (in_t13 (List.mem_of_getElem? (i := 227) rfl) rfl) good_w (in_t1 (List.mem_of_getElem? (i := 14) rfl) rfl) (in_t13 (List.mem_of_getElem? (i := 224) rfl) rfl) (in_t13 (List.mem_of_getElem? (i := 225) rfl) rfl) (in_t13 (List.mem_of_getElem? (i := 226) rfl) rfl) (by decide +kernel) (by decide +kernel) (by decide +kernel) (x_dk dn_0_13_ok 33 rfl))))))
  (e_TokL
  (e_LokL (e_stL (er_pop (x_dk dn_0_13_ok 34 rfl))))
  (e_TokL
  (e_LokL (e_stL (er_goto (off := 273) (tg := 2142) (x_dk dn_0_13_ok 35 rfl) (by decide))))
  (e_LokL (e_stL (er_aload_n (i := 1) (x_dk dn_0_13_ok 36 rfl)))))))
  (e_TokL
  (e_TokL
  (e_LokL (e_stL (er_aload_n (i := 0) (x_dk dn_0_13_ok 37 rfl))))
  (e_TokL
  (e_LokL (e_stL (er_iload_n (i := 3) (x_dk dn_0_13_ok 38 rfl))))
  (e_LokL (e_stL (er_iconst (n := 1) (z := 1) (v := 1) (x_dk dn_0_13_ok 39 rfl) (by decide) (by decide))))))
  (e_TokL
  (e_LokL (e_stL (er_iadd (x_dk dn_0_13_ok 40 rfl))))
  (e_TokL
  (e_LokL (Or.inr (Or.inr ⟨rfl, (x_dk dn_0_13_ok 41 rfl)⟩)))
  (e_LokL (e_stL (er_aload_n (i := 0) (x_dk dn_0_13_ok 42 rfl))))))))
  (e_TokL
  (e_TokL
  (e_TokL
  (e_LokL (e_stL (er_iload_n (i := 3) (x_dk dn_0_13_ok 43 rfl))))
  (e_TokL
  (e_LokL (e_stL (er_iconst (n := 2) (z := 2) (v := 2) (x_dk dn_0_13_ok 44 rfl) (by decide) (by decide))))
  (e_LokL (e_stL (er_iadd (x_dk dn_0_13_ok 45 rfl))))))
  (e_TokL
  (e_LokL (Or.inr (Or.inr ⟨rfl, (x_dk dn_0_13_ok 46 rfl)⟩)))
  (e_TokL
  (e_LokL (e_caL (q' := n_232) rfl (xr_callV (q' := n_232) (ix := 190) (n := 2) (in_t9 (List.mem_of_getElem? (i := 37) rfl) rfl) good_w (in_t1 (List.mem_of_getElem? (i := 1) rfl) rfl) (in_t9 (List.mem_of_getElem? (i := 34) rfl) rfl) (in_t9 (List.mem_of_getElem? (i := 35) rfl) rfl) (in_t9 (List.mem_of_getElem? (i := 36) rfl) rfl) (by decide +kernel) (by decide +kernel) (by decide +kernel) (x_dk dn_0_13_ok 47 rfl))))
  (e_LokL (e_stL (er_pop (x_dk dn_0_13_ok 48 rfl)))))))
  (e_TokL
  (e_TokL
  (e_LokL (e_stL (er_aload_n (i := 2) (x_dk dn_0_13_ok 49 rfl))))
  (e_TokL
  (e_LokL (e_stL (er_aload_n (i := 0) (x_dk dn_0_13_ok 50 rfl))))
  (e_LokL (e_stL (er_iload_n (i := 3) (x_dk dn_0_13_ok 51 rfl))))))
  (e_TokL
  (e_TokL
  (e_LokL (e_stL (er_iconst (n := 1) (z := 1) (v := 1) (x_dk dn_0_13_ok 52 rfl) (by decide) (by decide))))
  (e_LokL (e_stL (er_iadd (x_dk dn_0_13_ok 53 rfl)))))
  (e_TokL
  (e_LokL (Or.inr (Or.inr ⟨rfl, (x_dk dn_0_13_ok 54 rfl)⟩)))
  (e_LokL (e_stL (er_aload_n (i := 0) (x_dk dn_0_13_ok 55 rfl)))))))))
def te_0_1356 (L : Nat) (xs : Nat → Int32) : Nat → eE := (e_T 1909 (e_T 1901 (e_T 1896 (e_T 1894 (e_L 1894 (0, ei_load 3 0 1895, 0, 0)) (e_T 1895 (e_L 1895 (0, ei_push (0, 2) 1896, 0, 0)) (e_L 1896 (0, ei_bin eF_add 1897, 0, 0)))) (e_T 1897 (e_L 1897 (0, e_S (g_scd L xs 1898), 0, 0)) (e_T 1898 (e_L 1898 (2, e_nof, 443, 3)) (e_L 1901 (0, ei_stk ef_pop 1902, 0, 0))))) (e_T 1906 (e_T 1902 (e_L 1902 (0, ei_goto 2142, 0, 0)) (e_T 1905 (e_L 1905 (0, ei_load 1 2 1906, 0, 0)) (e_L 1906 (0, ei_load 0 2 1907, 0, 0)))) (e_T 1907 (e_L 1907 (0, ei_load 3 0 1908, 0, 0)) (e_T 1908 (e_L 1908 (0, ei_push (0, 1) 1909, 0, 0)) (e_L 1909 (0, ei_bin eF_add 1910, 0, 0)))))) (e_T 1915 (e_T 1912 (e_T 1910 (e_L 1910 (0, e_S (g_scd L xs 1911), 0, 0)) (e_T 1911 (e_L 1911 (0, ei_load 0 2 1912, 0, 0)) (e_L 1912 (0, ei_load 3 0 1913, 0, 0)))) (e_T 1913 (e_L 1913 (0, ei_push (0, 2) 1914, 0, 0)) (e_T 1914 (e_L 1914 (0, ei_bin eF_add 1915, 0, 0)) (e_L 1915 (0, e_S (g_scd L xs 1916), 0, 0))))) (e_T 1920 (e_T 1916 (e_L 1916 (2, e_nof, 233, 3)) (e_T 1919 (e_L 1919 (0, ei_stk ef_pop 1920, 0, 0)) (e_L 1920 (0, ei_load 2 2 1921, 0, 0)))) (e_T 1921 (e_L 1921 (0, ei_load 0 2 1922, 0, 0)) (e_T 1922 (e_L 1922 (0, ei_load 3 0 1923, 0, 0)) (e_L 1923 (0, ei_push (0, 1) 1924, 0, 0)))))))
set_option maxRecDepth 20000 in
set_option maxHeartbeats 4000000 in
theorem te_0_1356_ok (L : Nat) (xs : Nat → Int32) : ∀ pc, e_EOl L xs pc (te_0_1356 L xs pc) :=
  (e_TokL
  (e_TokL
  (e_TokL
  (e_TokL
  (e_LokL (e_stL (er_iload_n (i := 3) (x_dk dn_0_13_ok 56 rfl))))
  (e_TokL
  (e_LokL (e_stL (er_iconst (n := 2) (z := 2) (v := 2) (x_dk dn_0_13_ok 57 rfl) (by decide) (by decide))))
  (e_LokL (e_stL (er_iadd (x_dk dn_0_13_ok 58 rfl))))))
  (e_TokL
  (e_LokL (Or.inr (Or.inr ⟨rfl, (x_dk dn_0_13_ok 59 rfl)⟩)))
  (e_TokL
  (e_LokL (e_caL (q' := n_443) rfl (xr_callV (q' := n_443) (ix := 193) (n := 2) (in_t13 (List.mem_of_getElem? (i := 232) rfl) rfl) good_w (in_t1 (List.mem_of_getElem? (i := 14) rfl) rfl) (in_t13 (List.mem_of_getElem? (i := 229) rfl) rfl) (in_t13 (List.mem_of_getElem? (i := 230) rfl) rfl) (in_t13 (List.mem_of_getElem? (i := 231) rfl) rfl) (by decide +kernel) (by decide +kernel) (by decide +kernel) (x_dk dn_0_13_ok 60 rfl))))
  (e_LokL (e_stL (er_pop (x_dk dn_0_13_ok 61 rfl)))))))
  (e_TokL
  (e_TokL
  (e_LokL (e_stL (er_goto (off := 240) (tg := 2142) (x_dk dn_0_13_ok 62 rfl) (by decide))))
  (e_TokL
  (e_LokL (e_stL (er_aload_n (i := 1) (x_dk dn_0_13_ok 63 rfl))))
  (e_LokL (e_stL (er_aload_n (i := 0) (x_dk dn_0_13_ok 64 rfl))))))
  (e_TokL
  (e_LokL (e_stL (er_iload_n (i := 3) (x_dk dn_0_13_ok 65 rfl))))
  (e_TokL
  (e_LokL (e_stL (er_iconst (n := 1) (z := 1) (v := 1) (x_dk dn_0_13_ok 66 rfl) (by decide) (by decide))))
  (e_LokL (e_stL (er_iadd (x_dk dn_0_13_ok 67 rfl))))))))
  (e_TokL
  (e_TokL
  (e_TokL
  (e_LokL (Or.inr (Or.inr ⟨rfl, (x_dk dn_0_13_ok 68 rfl)⟩)))
  (e_TokL
  (e_LokL (e_stL (er_aload_n (i := 0) (x_dk dn_0_13_ok 69 rfl))))
  (e_LokL (e_stL (er_iload_n (i := 3) (x_dk dn_0_13_ok 70 rfl))))))
  (e_TokL
  (e_LokL (e_stL (er_iconst (n := 2) (z := 2) (v := 2) (x_dk dn_0_13_ok 71 rfl) (by decide) (by decide))))
  (e_TokL
  (e_LokL (e_stL (er_iadd (x_dk dn_0_13_ok 72 rfl))))
  (e_LokL (Or.inr (Or.inr ⟨rfl, (x_dk dn_0_13_ok 73 rfl)⟩))))))
  (e_TokL
  (e_TokL
  (e_LokL (e_caL (q' := n_233) rfl (xr_callV (q' := n_233) (ix := 194) (n := 2) (in_t9 (List.mem_of_getElem? (i := 41) rfl) rfl) good_w (in_t1 (List.mem_of_getElem? (i := 1) rfl) rfl) (in_t9 (List.mem_of_getElem? (i := 38) rfl) rfl) (in_t9 (List.mem_of_getElem? (i := 39) rfl) rfl) (in_t9 (List.mem_of_getElem? (i := 40) rfl) rfl) (by decide +kernel) (by decide +kernel) (by decide +kernel) (x_dk dn_0_13_ok 74 rfl))))
  (e_TokL
  (e_LokL (e_stL (er_pop (x_dk dn_0_13_ok 75 rfl))))
  (e_LokL (e_stL (er_aload_n (i := 2) (x_dk dn_0_13_ok 76 rfl))))))
  (e_TokL
  (e_LokL (e_stL (er_aload_n (i := 0) (x_dk dn_0_13_ok 77 rfl))))
  (e_TokL
  (e_LokL (e_stL (er_iload_n (i := 3) (x_dk dn_0_13_ok 78 rfl))))
  (e_LokL (e_stL (er_iconst (n := 1) (z := 1) (v := 1) (x_dk dn_0_13_ok 79 rfl) (by decide) (by decide)))))))))
def te_0_1380 (L : Nat) (xs : Nat → Int32) : Nat → eE := (e_T 1939 (e_T 1929 (e_T 1926 (e_T 1924 (e_L 1924 (0, ei_bin eF_add 1925, 0, 0)) (e_T 1925 (e_L 1925 (0, e_S (g_scd L xs 1926), 0, 0)) (e_L 1926 (0, ei_load 0 2 1927, 0, 0)))) (e_T 1927 (e_L 1927 (0, ei_load 3 0 1928, 0, 0)) (e_T 1928 (e_L 1928 (0, ei_push (0, 2) 1929, 0, 0)) (e_L 1929 (0, ei_bin eF_add 1930, 0, 0))))) (e_T 1934 (e_T 1930 (e_L 1930 (0, e_S (g_scd L xs 1931), 0, 0)) (e_T 1931 (e_L 1931 (2, e_nof, 444, 3)) (e_L 1934 (0, ei_stk ef_pop 1935, 0, 0)))) (e_T 1935 (e_L 1935 (0, ei_goto 2142, 0, 0)) (e_T 1938 (e_L 1938 (0, ei_load 1 2 1939, 0, 0)) (e_L 1939 (0, ei_load 0 2 1940, 0, 0)))))) (e_T 1947 (e_T 1942 (e_T 1940 (e_L 1940 (0, ei_load 3 0 1941, 0, 0)) (e_T 1941 (e_L 1941 (0, ei_push (0, 1) 1942, 0, 0)) (e_L 1942 (0, ei_bin eF_add 1943, 0, 0)))) (e_T 1943 (e_L 1943 (0, e_S (g_scd L xs 1944), 0, 0)) (e_T 1944 (e_L 1944 (2, e_nof, 234, 2)) (e_L 1947 (0, ei_stk ef_pop 1948, 0, 0))))) (e_T 1950 (e_T 1948 (e_L 1948 (0, ei_load 2 2 1949, 0, 0)) (e_T 1949 (e_L 1949 (0, ei_load 0 2 1950, 0, 0)) (e_L 1950 (0, ei_load 3 0 1951, 0, 0)))) (e_T 1951 (e_L 1951 (0, ei_push (0, 1) 1952, 0, 0)) (e_T 1952 (e_L 1952 (0, ei_bin eF_add 1953, 0, 0)) (e_L 1953 (0, e_S (g_scd L xs 1954), 0, 0)))))))
set_option maxRecDepth 20000 in
set_option maxHeartbeats 4000000 in
theorem te_0_1380_ok (L : Nat) (xs : Nat → Int32) : ∀ pc, e_EOl L xs pc (te_0_1380 L xs pc) :=
  (e_TokL
  (e_TokL
  (e_TokL
  (e_TokL
  (e_LokL (e_stL (er_iadd (x_dk dn_0_13_ok 80 rfl))))
  (e_TokL
  (e_LokL (Or.inr (Or.inr ⟨rfl, (x_dk dn_0_13_ok 81 rfl)⟩)))
  (e_LokL (e_stL (er_aload_n (i := 0) (x_dk dn_0_13_ok 82 rfl))))))
  (e_TokL
  (e_LokL (e_stL (er_iload_n (i := 3) (x_dk dn_0_13_ok 83 rfl))))
  (e_TokL
  (e_LokL (e_stL (er_iconst (n := 2) (z := 2) (v := 2) (x_dk dn_0_13_ok 84 rfl) (by decide) (by decide))))
  (e_LokL (e_stL (er_iadd (x_dk dn_0_13_ok 85 rfl)))))))
  (e_TokL
  (e_TokL
  (e_LokL (Or.inr (Or.inr ⟨rfl, (x_dk dn_0_13_ok 86 rfl)⟩)))
  (e_TokL
  (e_LokL (e_caL (q' := n_444) rfl (xr_callV (q' := n_444) (ix := 197) (n := 2) (in_t13 (List.mem_of_getElem? (i := 236) rfl) rfl) good_w (in_t1 (List.mem_of_getElem? (i := 14) rfl) rfl) (in_t13 (List.mem_of_getElem? (i := 233) rfl) rfl) (in_t13 (List.mem_of_getElem? (i := 234) rfl) rfl) (in_t13 (List.mem_of_getElem? (i := 235) rfl) rfl) (by decide +kernel) (by decide +kernel) (by decide +kernel) (x_dk dn_0_13_ok 87 rfl))))
  (e_LokL (e_stL (er_pop (x_dk dn_0_13_ok 88 rfl))))))
  (e_TokL
  (e_LokL (e_stL (er_goto (off := 207) (tg := 2142) (x_dk dn_0_13_ok 89 rfl) (by decide))))
  (e_TokL
  (e_LokL (e_stL (er_aload_n (i := 1) (x_dk dn_0_13_ok 90 rfl))))
  (e_LokL (e_stL (er_aload_n (i := 0) (x_dk dn_0_13_ok 91 rfl))))))))
  (e_TokL
  (e_TokL
  (e_TokL
  (e_LokL (e_stL (er_iload_n (i := 3) (x_dk dn_0_13_ok 92 rfl))))
  (e_TokL
  (e_LokL (e_stL (er_iconst (n := 1) (z := 1) (v := 1) (x_dk dn_0_13_ok 93 rfl) (by decide) (by decide))))
  (e_LokL (e_stL (er_iadd (x_dk dn_0_13_ok 94 rfl))))))
  (e_TokL
  (e_LokL (Or.inr (Or.inr ⟨rfl, (x_dk dn_0_13_ok 95 rfl)⟩)))
  (e_TokL
  (e_LokL (e_caL (q' := n_234) rfl (xr_callV (q' := n_234) (ix := 198) (n := 1) (in_t9 (List.mem_of_getElem? (i := 45) rfl) rfl) good_w (in_t1 (List.mem_of_getElem? (i := 1) rfl) rfl) (in_t9 (List.mem_of_getElem? (i := 42) rfl) rfl) (in_t9 (List.mem_of_getElem? (i := 43) rfl) rfl) (in_t9 (List.mem_of_getElem? (i := 44) rfl) rfl) (by decide +kernel) (by decide +kernel) (by decide +kernel) (x_dk dn_0_13_ok 96 rfl))))
  (e_LokL (e_stL (er_pop (x_dk dn_0_13_ok 97 rfl)))))))
  (e_TokL
  (e_TokL
  (e_LokL (e_stL (er_aload_n (i := 2) (x_dk dn_0_13_ok 98 rfl))))
  (e_TokL
  (e_LokL (e_stL (er_aload_n (i := 0) (x_dk dn_0_13_ok 99 rfl))))
  (e_LokL (e_stL (er_iload_n (i := 3) (x_dk dn_0_14_ok 0 rfl))))))
  (e_TokL
  (e_LokL (e_stL (er_iconst (n := 1) (z := 1) (v := 1) (x_dk dn_0_14_ok 1 rfl) (by decide) (by decide))))
  (e_TokL
  (e_LokL (e_stL (er_iadd (x_dk dn_0_14_ok 2 rfl))))
  (e_LokL (Or.inr (Or.inr ⟨rfl, (x_dk dn_0_14_ok 3 rfl)⟩))))))))
def te_0_1404 (L : Nat) (xs : Nat → Int32) : Nat → eE := (e_T 1969 (e_T 1963 (e_T 1958 (e_T 1954 (e_L 1954 (2, e_nof, 445, 2)) (e_T 1957 (e_L 1957 (0, ei_stk ef_pop 1958, 0, 0)) (e_L 1958 (0, ei_goto 2142, 0, 0)))) (e_T 1961 (e_L 1961 (0, ei_load 1 2 1962, 0, 0)) (e_T 1962 (e_L 1962 (0, ei_load 0 2 1963, 0, 0)) (e_L 1963 (0, ei_load 3 0 1964, 0, 0))))) (e_T 1966 (e_T 1964 (e_L 1964 (0, ei_push (0, 1) 1965, 0, 0)) (e_T 1965 (e_L 1965 (0, ei_bin eF_add 1966, 0, 0)) (e_L 1966 (0, e_S (g_scd L xs 1967), 0, 0)))) (e_T 1967 (e_L 1967 (0, ei_load 0 2 1968, 0, 0)) (e_T 1968 (e_L 1968 (0, ei_load 3 0 1969, 0, 0)) (e_L 1969 (0, ei_push (0, 2) 1970, 0, 0)))))) (e_T 1977 (e_T 1972 (e_T 1970 (e_L 1970 (0, ei_bin eF_add 1971, 0, 0)) (e_T 1971 (e_L 1971 (0, e_S (g_scd L xs 1972), 0, 0)) (e_L 1972 (2, e_nof, 235, 3)))) (e_T 1975 (e_L 1975 (0, ei_stk ef_pop 1976, 0, 0)) (e_T 1976 (e_L 1976 (0, ei_load 2 2 1977, 0, 0)) (e_L 1977 (0, ei_load 0 2 1978, 0, 0))))) (e_T 1980 (e_T 1978 (e_L 1978 (0, ei_load 3 0 1979, 0, 0)) (e_T 1979 (e_L 1979 (0, ei_push (0, 1) 1980, 0, 0)) (e_L 1980 (0, ei_bin eF_add 1981, 0, 0)))) (e_T 1981 (e_L 1981 (0, e_S (g_scd L xs 1982), 0, 0)) (e_T 1982 (e_L 1982 (0, ei_load 0 2 1983, 0, 0)) (e_L 1983 (0, ei_load 3 0 1984, 0, 0)))))))
set_option maxRecDepth 20000 in
set_option maxHeartbeats 4000000 in
theorem te_0_1404_ok (L : Nat) (xs : Nat → Int32) : ∀ pc, e_EOl L xs pc (te_0_1404 L xs pc) :=
  (e_TokL
  (e_TokL
  (e_TokL
  (e_TokL
  (e_LokL (e_caL (q' := n_445) rfl (xr_callV (q' := n_445) (ix := 201) (n := 1) (in_t14 (List.mem_of_getElem? (i := 0) rfl) rfl) good_w (in_t1 (List.mem_of_getElem? (i := 14) rfl) rfl) (in_t13 (List.mem_of_getElem? (i := 237) rfl) rfl) (in_t13 (List.mem_of_getElem? (i := 238) rfl) rfl) (in_t13 (List.mem_of_getElem? (i := 239) rfl) rfl) (by decide +kernel) (by decide +kernel) (by decide +kernel) (x_dk dn_0_14_ok 4 rfl))))
  (e_TokL
  (e_LokL (e_stL (er_pop (x_dk dn_0_14_ok 5 rfl))))
  (e_LokL (e_stL (er_goto (off := 184) (tg := 2142) (x_dk dn_0_14_ok 6 rfl) (by decide))))))
  (e_TokL
  (e_LokL (e_stL (er_aload_n (i := 1) (x_dk dn_0_14_ok 7 rfl))))
  (e_TokL
  (e_LokL (e_stL (er_aload_n (i := 0) (x_dk dn_0_14_ok 8 rfl))))
  (e_LokL (e_stL (er_iload_n (i := 3) (x_dk dn_0_14_ok 9 rfl)))))))
  (e_TokL
  (e_TokL
  (e_LokL (e_stL (er_iconst (n := 1) (z := 1) (v := 1) (x_dk dn_0_14_ok 10 rfl) (by decide) (by decide))))
  (e_TokL
  (e_LokL (e_stL (er_iadd (x_dk dn_0_14_ok 11 rfl))))
  (e_LokL (Or.inr (Or.inr ⟨rfl, (x_dk dn_0_14_ok 12 rfl)⟩)))))
  (e_TokL
  (e_LokL (e_stL (er_aload_n (i := 0) (x_dk dn_0_14_ok 13 rfl))))
  (e_TokL
  (e_LokL (e_stL (er_iload_n (i := 3) (x_dk dn_0_14_ok 14 rfl))))
  (e_LokL (e_stL (er_iconst (n := 2) (z := 2) (v := 2) (x_dk dn_0_14_ok 15 rfl) (by decide) (by decide))))))))
  (e_TokL
  (e_TokL
  (e_TokL
  (e_LokL (e_stL (er_iadd (x_dk dn_0_14_ok 16 rfl))))
  (e_TokL
  (e_LokL (Or.inr (Or.inr ⟨rfl, (x_dk dn_0_14_ok 17 rfl)⟩)))
  (e_LokL (e_caL (q' := n_235) rfl (xr_callV (q' := n_235) (ix := 202) (n := 2) (in_t9 (List.mem_of_getElem? (i := 49) rfl) rfl) good_w (in_t1 (List.mem_of_getElem? (i := 1) rfl) rfl) (in_t9 (List.mem_of_getElem? (i := 46) rfl) rfl) (in_t9 (List.mem_of_getElem? (i := 47) rfl) rfl) (in_t9 (List.mem_of_getElem? (i := 48) rfl) rfl) (by decide +kernel) (by decide +kernel) (by decide +kernel) (x_dk dn_0_14_ok 18 rfl))))))
  (e_TokL
  (e_LokL (e_stL (er_pop (x_dk dn_0_14_ok 19 rfl))))
  (e_TokL
  (e_LokL (e_stL (er_aload_n (i := 2) (x_dk dn_0_14_ok 20 rfl))))
  (e_LokL (e_stL (er_aload_n (i := 0) (x_dk dn_0_14_ok 21 rfl)))))))
  (e_TokL
  (e_TokL
  (e_LokL (e_stL (er_iload_n (i := 3) (x_dk dn_0_14_ok 22 rfl))))
  (e_TokL
  (e_LokL (e_stL (er_iconst (n := 1) (z := 1) (v := 1) (x_dk dn_0_14_ok 23 rfl) (by decide) (by decide))))
  (e_LokL (e_stL (er_iadd (x_dk dn_0_14_ok 24 rfl))))))
  (e_TokL
  (e_LokL (Or.inr (Or.inr ⟨rfl, (x_dk dn_0_14_ok 25 rfl)⟩)))
  (e_TokL
  (e_LokL (e_stL (er_aload_n (i := 0) (x_dk dn_0_14_ok 26 rfl))))
  (e_LokL (e_stL (er_iload_n (i := 3) (x_dk dn_0_14_ok 27 rfl)))))))))
def te_0_1428 (L : Nat) (xs : Nat → Int32) : Nat → eE := (e_T 1999 (e_T 1991 (e_T 1986 (e_T 1984 (e_L 1984 (0, ei_push (0, 2) 1985, 0, 0)) (e_T 1985 (e_L 1985 (0, ei_bin eF_add 1986, 0, 0)) (e_L 1986 (0, e_S (g_scd L xs 1987), 0, 0)))) (e_T 1987 (e_L 1987 (2, e_nof, 446, 3)) (e_T 1990 (e_L 1990 (0, ei_stk ef_pop 1991, 0, 0)) (e_L 1991 (0, ei_goto 2142, 0, 0))))) (e_T 1996 (e_T 1994 (e_L 1994 (0, ei_load 1 2 1995, 0, 0)) (e_T 1995 (e_L 1995 (0, ei_load 0 2 1996, 0, 0)) (e_L 1996 (0, ei_load 3 0 1997, 0, 0)))) (e_T 1997 (e_L 1997 (0, ei_push (0, 1) 1998, 0, 0)) (e_T 1998 (e_L 1998 (0, ei_bin eF_add 1999, 0, 0)) (e_L 1999 (0, e_S (g_scd L xs 2000), 0, 0)))))) (e_T 2007 (e_T 2004 (e_T 2000 (e_L 2000 (2, e_nof, 236, 2)) (e_T 2003 (e_L 2003 (0, ei_stk ef_pop 2004, 0, 0)) (e_L 2004 (0, ei_load 2 2 2005, 0, 0)))) (e_T 2005 (e_L 2005 (0, ei_load 0 2 2006, 0, 0)) (e_T 2006 (e_L 2006 (0, ei_load 3 0 2007, 0, 0)) (e_L 2007 (0, ei_push (0, 1) 2008, 0, 0))))) (e_T 2010 (e_T 2008 (e_L 2008 (0, ei_bin eF_add 2009, 0, 0)) (e_T 2009 (e_L 2009 (0, e_S (g_scd L xs 2010), 0, 0)) (e_L 2010 (2, e_nof, 447, 2)))) (e_T 2014 (e_T 2013 (e_L 2013 (0, ei_stk ef_pop 2014, 0, 0)) (e_L 2014 (0, ei_goto 2142, 0, 0))) (e_T 2017 (e_L 2017 (0, ei_load 1 2 2018, 0, 0)) (e_L 2018 (2, e_nof, 237, 1)))))))
set_option maxRecDepth 20000 in
set_option maxHeartbeats 4000000 in
theorem te_0_1428_ok (L : Nat) (xs : Nat → Int32) : ∀ pc, e_EOl L xs pc (te_0_1428 L xs pc) :=
  (e_TokL
  (e_TokL
  (e_TokL
  (e_TokL
  (e_LokL (e_stL (er_iconst (n := 2) (z := 2) (v := 2) (x_dk dn_0_14_ok 28 rfl) (by decide) (by decide))))
  (e_TokL
  (e_LokL (e_stL (er_iadd (x_dk dn_0_14_ok 29 rfl))))
  (e_LokL (Or.inr (Or.inr ⟨rfl, (x_dk dn_0_14_ok 30 rfl)⟩)))))
  (e_TokL
  (e_LokL (e_caL (q' := n_446) rfl (xr_callV (q' := n_446) (ix := 205) (n := 2) (in_t14 (List.mem_of_getElem? (i := 4) rfl) rfl) good_w (in_t1 (List.mem_of_getElem? (i := 14) rfl) rfl) (in_t14 (List.mem_of_getElem? (i := 1) rfl) rfl) (in_t14 (List.mem_of_getElem? (i := 2) rfl) rfl) (in_t14 (List.mem_of_getElem? (i := 3) rfl) rfl) (by decide +kernel) (by decide +kernel) (by decide +kernel) (x_dk dn_0_14_ok 31 rfl))))
  (e_TokL
  (e_LokL (e_stL (er_pop (x_dk dn_0_14_ok 32 rfl))))
  (e_LokL (e_stL (er_goto (off := 151) (tg := 2142) (x_dk dn_0_14_ok 33 rfl) (by decide)))))))
  (e_TokL
  (e_TokL
  (e_LokL (e_stL (er_aload_n (i := 1) (x_dk dn_0_14_ok 34 rfl))))
  (e_TokL
  (e_LokL (e_stL (er_aload_n (i := 0) (x_dk dn_0_14_ok 35 rfl))))
  (e_LokL (e_stL (er_iload_n (i := 3) (x_dk dn_0_14_ok 36 rfl))))))
  (e_TokL
  (e_LokL (e_stL (er_iconst (n := 1) (z := 1) (v := 1) (x_dk dn_0_14_ok 37 rfl) (by decide) (by decide))))
  (e_TokL
  (e_LokL (e_stL (er_iadd (x_dk dn_0_14_ok 38 rfl))))
  (e_LokL (Or.inr (Or.inr ⟨rfl, (x_dk dn_0_14_ok 39 rfl)⟩)))))))
  (e_TokL
  (e_TokL
  (e_TokL
  (e_LokL (e_caL (q' := n_236) rfl (xr_callV (q' := n_236) (ix := 206) (n := 1) (in_t9 (List.mem_of_getElem? (i := 55) rfl) rfl) good_w (in_t1 (List.mem_of_getElem? (i := 1) rfl) rfl) (in_t9 (List.mem_of_getElem? (i := 52) rfl) rfl) (in_t9 (List.mem_of_getElem? (i := 53) rfl) rfl) (in_t9 (List.mem_of_getElem? (i := 54) rfl) rfl) (by decide +kernel) (by decide +kernel) (by decide +kernel) (x_dk dn_0_14_ok 40 rfl))))
  (e_TokL
  (e_LokL (e_stL (er_pop (x_dk dn_0_14_ok 41 rfl))))
  (e_LokL (e_stL (er_aload_n (i := 2) (x_dk dn_0_14_ok 42 rfl))))))
  (e_TokL
  (e_LokL (e_stL (er_aload_n (i := 0) (x_dk dn_0_14_ok 43 rfl))))
  (e_TokL
  (e_LokL (e_stL (er_iload_n (i := 3) (x_dk dn_0_14_ok 44 rfl))))
  (e_LokL (e_stL (er_iconst (n := 1) (z := 1) (v := 1) (x_dk dn_0_14_ok 45 rfl) (by decide) (by decide)))))))
  (e_TokL
  (e_TokL
  (e_LokL (e_stL (er_iadd (x_dk dn_0_14_ok 46 rfl))))
  (e_TokL
  (e_LokL (Or.inr (Or.inr ⟨rfl, (x_dk dn_0_14_ok 47 rfl)⟩)))
  (e_LokL (e_caL (q' := n_447) rfl (xr_callV (q' := n_447) (ix := 209) (n := 1) (in_t14 (List.mem_of_getElem? (i := 8) rfl) rfl) good_w (in_t1 (List.mem_of_getElem? (i := 14) rfl) rfl) (in_t14 (List.mem_of_getElem? (i := 5) rfl) rfl) (in_t14 (List.mem_of_getElem? (i := 6) rfl) rfl) (in_t14 (List.mem_of_getElem? (i := 7) rfl) rfl) (by decide +kernel) (by decide +kernel) (by decide +kernel) (x_dk dn_0_14_ok 48 rfl))))))
  (e_TokL
  (e_TokL
  (e_LokL (e_stL (er_pop (x_dk dn_0_14_ok 49 rfl))))
  (e_LokL (e_stL (er_goto (off := 128) (tg := 2142) (x_dk dn_0_14_ok 50 rfl) (by decide)))))
  (e_TokL
  (e_LokL (e_stL (er_aload_n (i := 1) (x_dk dn_0_14_ok 51 rfl))))
  (e_LokL (e_caL (q' := n_237) rfl (xr_callV (q' := n_237) (ix := 210) (n := 0) (in_t9 (List.mem_of_getElem? (i := 63) rfl) rfl) good_w (in_t1 (List.mem_of_getElem? (i := 1) rfl) rfl) (in_t9 (List.mem_of_getElem? (i := 60) rfl) rfl) (in_t9 (List.mem_of_getElem? (i := 61) rfl) rfl) (in_t9 (List.mem_of_getElem? (i := 62) rfl) rfl) (by decide +kernel) (by decide +kernel) (by decide +kernel) (x_dk dn_0_14_ok 52 rfl)))))))))
def te_0_1453 (L : Nat) (xs : Nat → Int32) : Nat → eE := (e_T 2036 (e_T 2030 (e_T 2023 (e_T 2021 (e_L 2021 (0, ei_stk ef_pop 2022, 0, 0)) (e_T 2022 (e_L 2022 (0, ei_load 2 2 2023, 0, 0)) (e_L 2023 (2, e_nof, 448, 1)))) (e_T 2026 (e_L 2026 (0, ei_stk ef_pop 2027, 0, 0)) (e_T 2027 (e_L 2027 (0, ei_goto 2142, 0, 0)) (e_L 2030 (0, ei_load 1 2 2031, 0, 0))))) (e_T 2033 (e_T 2031 (e_L 2031 (0, ei_load 0 2 2032, 0, 0)) (e_T 2032 (e_L 2032 (0, ei_load 3 0 2033, 0, 0)) (e_L 2033 (0, ei_push (0, 1) 2034, 0, 0)))) (e_T 2034 (e_L 2034 (0, ei_bin eF_add 2035, 0, 0)) (e_T 2035 (e_L 2035 (0, e_S (g_scd L xs 2036), 0, 0)) (e_L 2036 (0, ei_load 0 2 2037, 0, 0)))))) (e_T 2044 (e_T 2039 (e_T 2037 (e_L 2037 (0, ei_load 3 0 2038, 0, 0)) (e_T 2038 (e_L 2038 (0, ei_push (0, 2) 2039, 0, 0)) (e_L 2039 (0, ei_bin eF_add 2040, 0, 0)))) (e_T 2040 (e_L 2040 (0, e_S (g_scd L xs 2041), 0, 0)) (e_T 2041 (e_L 2041 (2, e_nof, 238, 3)) (e_L 2044 (0, ei_stk ef_pop 2045, 0, 0))))) (e_T 2047 (e_T 2045 (e_L 2045 (0, ei_load 2 2 2046, 0, 0)) (e_T 2046 (e_L 2046 (0, ei_load 0 2 2047, 0, 0)) (e_L 2047 (0, ei_load 3 0 2048, 0, 0)))) (e_T 2048 (e_L 2048 (0, ei_push (0, 1) 2049, 0, 0)) (e_T 2049 (e_L 2049 (0, ei_bin eF_add 2050, 0, 0)) (e_L 2050 (0, e_S (g_scd L xs 2051), 0, 0)))))))
set_option maxRecDepth 20000 in
set_option maxHeartbeats 4000000 in
theorem te_0_1453_ok (L : Nat) (xs : Nat → Int32) : ∀ pc, e_EOl L xs pc (te_0_1453 L xs pc) :=
  (e_TokL
  (e_TokL
  (e_TokL
  (e_TokL
  (e_LokL (e_stL (er_pop (x_dk dn_0_14_ok 53 rfl))))
  (e_TokL
  (e_LokL (e_stL (er_aload_n (i := 2) (x_dk dn_0_14_ok 54 rfl))))
  (e_LokL (e_caL (q' := n_448) rfl (xr_callV (q' := n_448) (ix := 213) (n := 0) (in_t14 (List.mem_of_getElem? (i := 12) rfl) rfl) good_w (in_t1 (List.mem_of_getElem? (i := 14) rfl) rfl) (in_t14 (List.mem_of_getElem? (i := 9) rfl) rfl) (in_t14 (List.mem_of_getElem? (i := 10) rfl) rfl) (in_t14 (List.mem_of_getElem? (i := 11) rfl) rfl) (by decide +kernel) (by decide +kernel) (by decide +kernel) (x_dk dn_0_14_ok 55 rfl))))))
  (e_TokL
  (e_LokL (e_stL (er_pop (x_dk dn_0_14_ok 56 rfl))))
  (e_TokL
  (e_LokL (e_stL (er_goto (off := 115) (tg := 2142) (x_dk dn_0_14_ok 57 rfl) (by decide))))
  (e_LokL (e_stL (er_aload_n (i := 1) (x_dk dn_0_14_ok 58 rfl)))))))
  (e_TokL
  (e_TokL
  (e_LokL (e_stL (er_aload_n (i := 0) (x_dk dn_0_14_ok 59 rfl))))
  (e_TokL
  (e_LokL (e_stL (er_iload_n (i := 3) (x_dk dn_0_14_ok 60 rfl))))
  (e_LokL (e_stL (er_iconst (n := 1) (z := 1) (v := 1) (x_dk dn_0_14_ok 61 rfl) (by decide) (by decide))))))
  (e_TokL
  (e_LokL (e_stL (er_iadd (x_dk dn_0_14_ok 62 rfl))))
  (e_TokL
  (e_LokL (Or.inr (Or.inr ⟨rfl, (x_dk dn_0_14_ok 63 rfl)⟩)))
  (e_LokL (e_stL (er_aload_n (i := 0) (x_dk dn_0_14_ok 64 rfl))))))))
  (e_TokL
  (e_TokL
  (e_TokL
  (e_LokL (e_stL (er_iload_n (i := 3) (x_dk dn_0_14_ok 65 rfl))))
  (e_TokL
  (e_LokL (e_stL (er_iconst (n := 2) (z := 2) (v := 2) (x_dk dn_0_14_ok 66 rfl) (by decide) (by decide))))
  (e_LokL (e_stL (er_iadd (x_dk dn_0_14_ok 67 rfl))))))
  (e_TokL
  (e_LokL (Or.inr (Or.inr ⟨rfl, (x_dk dn_0_14_ok 68 rfl)⟩)))
  (e_TokL
  (e_LokL (e_caL (q' := n_238) rfl (xr_callV (q' := n_238) (ix := 214) (n := 2) (in_t9 (List.mem_of_getElem? (i := 67) rfl) rfl) good_w (in_t1 (List.mem_of_getElem? (i := 1) rfl) rfl) (in_t9 (List.mem_of_getElem? (i := 64) rfl) rfl) (in_t9 (List.mem_of_getElem? (i := 65) rfl) rfl) (in_t9 (List.mem_of_getElem? (i := 66) rfl) rfl) (by decide +kernel) (by decide +kernel) (by decide +kernel) (x_dk dn_0_14_ok 69 rfl))))
  (e_LokL (e_stL (er_pop (x_dk dn_0_14_ok 70 rfl)))))))
  (e_TokL
  (e_TokL
  (e_LokL (e_stL (er_aload_n (i := 2) (x_dk dn_0_14_ok 71 rfl))))
  (e_TokL
  (e_LokL (e_stL (er_aload_n (i := 0) (x_dk dn_0_14_ok 72 rfl))))
  (e_LokL (e_stL (er_iload_n (i := 3) (x_dk dn_0_14_ok 73 rfl))))))
  (e_TokL
  (e_LokL (e_stL (er_iconst (n := 1) (z := 1) (v := 1) (x_dk dn_0_14_ok 74 rfl) (by decide) (by decide))))
  (e_TokL
  (e_LokL (e_stL (er_iadd (x_dk dn_0_14_ok 75 rfl))))
  (e_LokL (Or.inr (Or.inr ⟨rfl, (x_dk dn_0_14_ok 76 rfl)⟩))))))))
def te_0_1477 (L : Nat) (xs : Nat → Int32) : Nat → eE := (e_T 2066 (e_T 2056 (e_T 2053 (e_T 2051 (e_L 2051 (0, ei_load 0 2 2052, 0, 0)) (e_T 2052 (e_L 2052 (0, ei_load 3 0 2053, 0, 0)) (e_L 2053 (0, ei_push (0, 2) 2054, 0, 0)))) (e_T 2054 (e_L 2054 (0, ei_bin eF_add 2055, 0, 0)) (e_T 2055 (e_L 2055 (0, e_S (g_scd L xs 2056), 0, 0)) (e_L 2056 (2, e_nof, 449, 3))))) (e_T 2063 (e_T 2059 (e_L 2059 (0, ei_stk ef_pop 2060, 0, 0)) (e_T 2060 (e_L 2060 (0, ei_goto 2142, 0, 0)) (e_L 2063 (0, ei_load 1 2 2064, 0, 0)))) (e_T 2064 (e_L 2064 (0, ei_load 0 2 2065, 0, 0)) (e_T 2065 (e_L 2065 (0, ei_load 3 0 2066, 0, 0)) (e_L 2066 (0, ei_push (0, 1) 2067, 0, 0)))))) (e_T 2072 (e_T 2069 (e_T 2067 (e_L 2067 (0, ei_bin eF_add 2068, 0, 0)) (e_T 2068 (e_L 2068 (0, e_S (g_scd L xs 2069), 0, 0)) (e_L 2069 (0, ei_load 0 2 2070, 0, 0)))) (e_T 2070 (e_L 2070 (0, ei_load 3 0 2071, 0, 0)) (e_T 2071 (e_L 2071 (0, ei_push (0, 2) 2072, 0, 0)) (e_L 2072 (0, ei_bin eF_add 2073, 0, 0))))) (e_T 2077 (e_T 2073 (e_L 2073 (0, e_S (g_scd L xs 2074), 0, 0)) (e_T 2074 (e_L 2074 (2, e_nof, 239, 3)) (e_L 2077 (0, ei_stk ef_pop 2078, 0, 0)))) (e_T 2078 (e_L 2078 (0, ei_load 2 2 2079, 0, 0)) (e_T 2079 (e_L 2079 (0, ei_load 0 2 2080, 0, 0)) (e_L 2080 (0, ei_load 3 0 2081, 0, 0)))))))
set_option maxRecDepth 20000 in
set_option maxHeartbeats 4000000 in
theorem te_0_1477_ok (L : Nat) (xs : Nat → Int32) : ∀ pc, e_EOl L xs pc (te_0_1477 L xs pc) :=
  (e_TokL
  (e_TokL
  (e_TokL
  (e_TokL
  (e_LokL (e_stL (er_aload_n (i := 0) (x_dk dn_0_14_ok 77 rfl))))
  (e_TokL
  (e_LokL (e_stL (er_iload_n (i := 3) (x_dk dn_0_14_ok 78 rfl))))
  (e_LokL (e_stL (er_iconst (n := 2) (z := 2) (v := 2) (x_dk dn_0_14_ok 79 rfl) (by decide) (by decide))))))
  (e_TokL
  (e_LokL (e_stL (er_iadd (x_dk dn_0_14_ok 80 rfl))))
  (e_TokL
  (e_LokL (Or.inr (Or.inr ⟨rfl, (x_dk dn_0_14_ok 81 rfl)⟩)))
  (e_LokL (e_caL (q' := n_449) rfl (xr_callV (q' := n_449) (ix := 217) (n := 2) (in_t14 (List.mem_of_getElem? (i := 16) rfl) rfl) good_w (in_t1 (List.mem_of_getElem? (i := 14) rfl) rfl) (in_t14 (List.mem_of_getElem? (i := 13) rfl) rfl) (in_t14 (List.mem_of_getElem? (i := 14) rfl) rfl) (in_t14 (List.mem_of_getElem? (i := 15) rfl) rfl) (by decide +kernel) (by decide +kernel) (by decide +kernel) (x_dk dn_0_14_ok 82 rfl)))))))
  (e_TokL
  (e_TokL
  (e_LokL (e_stL (er_pop (x_dk dn_0_14_ok 83 rfl))))
  (e_TokL
  (e_LokL (e_stL (er_goto (off := 82) (tg := 2142) (x_dk dn_0_14_ok 84 rfl) (by decide))))
  (e_LokL (e_stL (er_aload_n (i := 1) (x_dk dn_0_14_ok 85 rfl))))))
  (e_TokL
  (e_LokL (e_stL (er_aload_n (i := 0) (x_dk dn_0_14_ok 86 rfl))))
  (e_TokL
  (e_LokL (e_stL (er_iload_n (i := 3) (x_dk dn_0_14_ok 87 rfl))))
  (e_LokL (e_stL (er_iconst (n := 1) (z := 1) (v := 1) (x_dk dn_0_14_ok 88 rfl) (by decide) (by decide))))))))
  (e_TokL
  (e_TokL
  (e_TokL
  (e_LokL (e_stL (er_iadd (x_dk dn_0_14_ok 89 rfl))))
  (e_TokL
  (e_LokL (Or.inr (Or.inr ⟨rfl, (x_dk dn_0_14_ok 90 rfl)⟩)))
  (e_LokL (e_stL (er_aload_n (i := 0) (x_dk dn_0_14_ok 91 rfl))))))
  (e_TokL
  (e_LokL (e_stL (er_iload_n (i := 3) (x_dk dn_0_14_ok 92 rfl))))
  (e_TokL
  (e_LokL (e_stL (er_iconst (n := 2) (z := 2) (v := 2) (x_dk dn_0_14_ok 93 rfl) (by decide) (by decide))))
  (e_LokL (e_stL (er_iadd (x_dk dn_0_14_ok 94 rfl)))))))
  (e_TokL
  (e_TokL
  (e_LokL (Or.inr (Or.inr ⟨rfl, (x_dk dn_0_14_ok 95 rfl)⟩)))
  (e_TokL
  (e_LokL (e_caL (q' := n_239) rfl (xr_callV (q' := n_239) (ix := 218) (n := 2) (in_t9 (List.mem_of_getElem? (i := 71) rfl) rfl) good_w (in_t1 (List.mem_of_getElem? (i := 1) rfl) rfl) (in_t9 (List.mem_of_getElem? (i := 68) rfl) rfl) (in_t9 (List.mem_of_getElem? (i := 69) rfl) rfl) (in_t9 (List.mem_of_getElem? (i := 70) rfl) rfl) (by decide +kernel) (by decide +kernel) (by decide +kernel) (x_dk dn_0_14_ok 96 rfl))))
  (e_LokL (e_stL (er_pop (x_dk dn_0_14_ok 97 rfl))))))
  (e_TokL
  (e_LokL (e_stL (er_aload_n (i := 2) (x_dk dn_0_14_ok 98 rfl))))
  (e_TokL
  (e_LokL (e_stL (er_aload_n (i := 0) (x_dk dn_0_14_ok 99 rfl))))
  (e_LokL (e_stL (er_iload_n (i := 3) (x_dk dn_0_15_ok 0 rfl)))))))))
def te_0_1501 (L : Nat) (xs : Nat → Int32) : Nat → eE := (e_T 2096 (e_T 2086 (e_T 2083 (e_T 2081 (e_L 2081 (0, ei_push (0, 1) 2082, 0, 0)) (e_T 2082 (e_L 2082 (0, ei_bin eF_add 2083, 0, 0)) (e_L 2083 (0, e_S (g_scd L xs 2084), 0, 0)))) (e_T 2084 (e_L 2084 (0, ei_load 0 2 2085, 0, 0)) (e_T 2085 (e_L 2085 (0, ei_load 3 0 2086, 0, 0)) (e_L 2086 (0, ei_push (0, 2) 2087, 0, 0))))) (e_T 2089 (e_T 2087 (e_L 2087 (0, ei_bin eF_add 2088, 0, 0)) (e_T 2088 (e_L 2088 (0, e_S (g_scd L xs 2089), 0, 0)) (e_L 2089 (2, e_nof, 318, 3)))) (e_T 2092 (e_L 2092 (0, ei_stk ef_pop 2093, 0, 0)) (e_T 2093 (e_L 2093 (0, ei_goto 2142, 0, 0)) (e_L 2096 (0, ei_load 1 2 2097, 0, 0)))))) (e_T 2102 (e_T 2099 (e_T 2097 (e_L 2097 (0, ei_load 0 2 2098, 0, 0)) (e_T 2098 (e_L 2098 (0, ei_load 3 0 2099, 0, 0)) (e_L 2099 (0, ei_push (0, 1) 2100, 0, 0)))) (e_T 2100 (e_L 2100 (0, ei_bin eF_add 2101, 0, 0)) (e_T 2101 (e_L 2101 (0, e_S (g_scd L xs 2102), 0, 0)) (e_L 2102 (2, e_nof, 240, 2))))) (e_T 2107 (e_T 2105 (e_L 2105 (0, ei_stk ef_pop 2106, 0, 0)) (e_T 2106 (e_L 2106 (0, ei_load 2 2 2107, 0, 0)) (e_L 2107 (0, ei_load 0 2 2108, 0, 0)))) (e_T 2108 (e_L 2108 (0, ei_load 3 0 2109, 0, 0)) (e_T 2109 (e_L 2109 (0, ei_push (0, 1) 2110, 0, 0)) (e_L 2110 (0, ei_bin eF_add 2111, 0, 0)))))))
set_option maxRecDepth 20000 in
set_option maxHeartbeats 4000000 in
theorem te_0_1501_ok (L : Nat) (xs : Nat → Int32) : ∀ pc, e_EOl L xs pc (te_0_1501 L xs pc) :=
  (e_TokL
  (e_TokL
  (e_TokL
  (e_TokL
  (e_LokL (e_stL (er_iconst (n := 1) (z := 1) (v := 1) (x_dk dn_0_15_ok 1 rfl) (by decide) (by decide))))
  (e_TokL
  (e_LokL (e_stL (er_iadd (x_dk dn_0_15_ok 2 rfl))))
  (e_LokL (Or.inr (Or.inr ⟨rfl, (x_dk dn_0_15_ok 3 rfl)⟩)))))
  (e_TokL
  (e_LokL (e_stL (er_aload_n (i := 0) (x_dk dn_0_15_ok 4 rfl))))
  (e_TokL
  (e_LokL (e_stL (er_iload_n (i := 3) (x_dk dn_0_15_ok 5 rfl))))
  (e_LokL (e_stL (er_iconst (n := 2) (z := 2) (v := 2) (x_dk dn_0_15_ok 6 rfl) (by decide) (by decide)))))))
  (e_TokL
  (e_TokL
  (e_LokL (e_stL (er_iadd (x_dk dn_0_15_ok 7 rfl))))
  (e_TokL
  (e_LokL (Or.inr (Or.inr ⟨rfl, (x_dk dn_0_15_ok 8 rfl)⟩)))
  (e_LokL (e_caL (q' := n_318) rfl (xr_callV (q' := n_318) (ix := 221) (n := 2) (in_t11 (List.mem_of_getElem? (i := 150) rfl) rfl) good_w (in_t1 (List.mem_of_getElem? (i := 14) rfl) rfl) (in_t11 (List.mem_of_getElem? (i := 147) rfl) rfl) (in_t11 (List.mem_of_getElem? (i := 148) rfl) rfl) (in_t11 (List.mem_of_getElem? (i := 149) rfl) rfl) (by decide +kernel) (by decide +kernel) (by decide +kernel) (x_dk dn_0_15_ok 9 rfl))))))
  (e_TokL
  (e_LokL (e_stL (er_pop (x_dk dn_0_15_ok 10 rfl))))
  (e_TokL
  (e_LokL (e_stL (er_goto (off := 49) (tg := 2142) (x_dk dn_0_15_ok 11 rfl) (by decide))))
  (e_LokL (e_stL (er_aload_n (i := 1) (x_dk dn_0_15_ok 12 rfl))))))))
  (e_TokL
  (e_TokL
  (e_TokL
  (e_LokL (e_stL (er_aload_n (i := 0) (x_dk dn_0_15_ok 13 rfl))))
  (e_TokL
  (e_LokL (e_stL (er_iload_n (i := 3) (x_dk dn_0_15_ok 14 rfl))))
  (e_LokL (e_stL (er_iconst (n := 1) (z := 1) (v := 1) (x_dk dn_0_15_ok 15 rfl) (by decide) (by decide))))))
  (e_TokL
  (e_LokL (e_stL (er_iadd (x_dk dn_0_15_ok 16 rfl))))
  (e_TokL
  (e_LokL (Or.inr (Or.inr ⟨rfl, (x_dk dn_0_15_ok 17 rfl)⟩)))
  (e_LokL (e_caL (q' := n_240) rfl (xr_callV (q' := n_240) (ix := 222) (n := 1) (in_t9 (List.mem_of_getElem? (i := 75) rfl) rfl) good_w (in_t1 (List.mem_of_getElem? (i := 1) rfl) rfl) (in_t9 (List.mem_of_getElem? (i := 72) rfl) rfl) (in_t9 (List.mem_of_getElem? (i := 73) rfl) rfl) (in_t9 (List.mem_of_getElem? (i := 74) rfl) rfl) (by decide +kernel) (by decide +kernel) (by decide +kernel) (x_dk dn_0_15_ok 18 rfl)))))))
  (e_TokL
  (e_TokL
  (e_LokL (e_stL (er_pop (x_dk dn_0_15_ok 19 rfl))))
  (e_TokL
  (e_LokL (e_stL (er_aload_n (i := 2) (x_dk dn_0_15_ok 20 rfl))))
  (e_LokL (e_stL (er_aload_n (i := 0) (x_dk dn_0_15_ok 21 rfl))))))
  (e_TokL
  (e_LokL (e_stL (er_iload_n (i := 3) (x_dk dn_0_15_ok 22 rfl))))
  (e_TokL
  (e_LokL (e_stL (er_iconst (n := 1) (z := 1) (v := 1) (x_dk dn_0_15_ok 23 rfl) (by decide) (by decide))))
  (e_LokL (e_stL (er_iadd (x_dk dn_0_15_ok 24 rfl)))))))))
def te_0_1525 (L : Nat) (xs : Nat → Int32) : Nat → eE := (e_T 2128 (e_T 2120 (e_T 2115 (e_T 2111 (e_L 2111 (0, e_S (g_scd L xs 2112), 0, 0)) (e_T 2112 (e_L 2112 (2, e_nof, 450, 2)) (e_L 2115 (0, ei_stk ef_pop 2116, 0, 0)))) (e_T 2116 (e_L 2116 (0, ei_goto 2142, 0, 0)) (e_T 2119 (e_L 2119 (0, ei_load 1 2 2120, 0, 0)) (e_L 2120 (0, ei_load 0 2 2121, 0, 0))))) (e_T 2123 (e_T 2121 (e_L 2121 (0, ei_load 3 0 2122, 0, 0)) (e_T 2122 (e_L 2122 (0, ei_push (0, 1) 2123, 0, 0)) (e_L 2123 (0, ei_bin eF_add 2124, 0, 0)))) (e_T 2124 (e_L 2124 (0, e_S (g_scd L xs 2125), 0, 0)) (e_T 2125 (e_L 2125 (2, e_nof, 241, 2)) (e_L 2128 (0, ei_stk ef_pop 2129, 0, 0)))))) (e_T 2134 (e_T 2131 (e_T 2129 (e_L 2129 (0, ei_load 2 2 2130, 0, 0)) (e_T 2130 (e_L 2130 (0, ei_load 0 2 2131, 0, 0)) (e_L 2131 (0, ei_load 3 0 2132, 0, 0)))) (e_T 2132 (e_L 2132 (0, ei_push (0, 1) 2133, 0, 0)) (e_T 2133 (e_L 2133 (0, ei_bin eF_add 2134, 0, 0)) (e_L 2134 (0, e_S (g_scd L xs 2135), 0, 0))))) (e_T 2139 (e_T 2135 (e_L 2135 (2, e_nof, 451, 2)) (e_T 2138 (e_L 2138 (0, ei_stk ef_pop 2139, 0, 0)) (e_L 2139 (0, ei_goto 2142, 0, 0)))) (e_T 2145 (e_T 2142 (e_L 2142 (0, ei_inc 3 6 2145, 0, 0)) (e_L 2145 (0, ei_goto 18, 0, 0))) (e_T 2148 (e_L 2148 (0, ei_push (0, 1) 2149, 0, 0)) (e_L 2149 (1, e_nof, 4, 0)))))))
set_option maxRecDepth 20000 in
set_option maxHeartbeats 4000000 in
theorem te_0_1525_ok (L : Nat) (xs : Nat → Int32) : ∀ pc, e_EOl L xs pc (te_0_1525 L xs pc) :=
  (e_TokL
  (e_TokL
  (e_TokL
  (e_TokL
  (e_LokL (Or.inr (Or.inr ⟨rfl, (x_dk dn_0_15_ok 25 rfl)⟩)))
  (e_TokL
  (e_LokL (e_caL (q' := n_450) rfl (xr_callV (q' := n_450) (ix := 225) (n := 1) (in_t14 (List.mem_of_getElem? (i := 20) rfl) rfl) good_w (in_t1 (List.mem_of_getElem? (i := 14) rfl) rfl) (in_t14 (List.mem_of_getElem? (i := 17) rfl) rfl) (in_t14 (List.mem_of_getElem? (i := 18) rfl) rfl) (in_t14 (List.mem_of_getElem? (i := 19) rfl) rfl) (by decide +kernel) (by decide +kernel) (by decide +kernel) (x_dk dn_0_15_ok 26 rfl))))
  (e_LokL (e_stL (er_pop (x_dk dn_0_15_ok 27 rfl))))))
  (e_TokL
  (e_LokL (e_stL (er_goto (off := 26) (tg := 2142) (x_dk dn_0_15_ok 28 rfl) (by decide))))
  (e_TokL
  (e_LokL (e_stL (er_aload_n (i := 1) (x_dk dn_0_15_ok 29 rfl))))
  (e_LokL (e_stL (er_aload_n (i := 0) (x_dk dn_0_15_ok 30 rfl)))))))
  (e_TokL
  (e_TokL
  (e_LokL (e_stL (er_iload_n (i := 3) (x_dk dn_0_15_ok 31 rfl))))
  (e_TokL
  (e_LokL (e_stL (er_iconst (n := 1) (z := 1) (v := 1) (x_dk dn_0_15_ok 32 rfl) (by decide) (by decide))))
  (e_LokL (e_stL (er_iadd (x_dk dn_0_15_ok 33 rfl))))))
  (e_TokL
  (e_LokL (Or.inr (Or.inr ⟨rfl, (x_dk dn_0_15_ok 34 rfl)⟩)))
  (e_TokL
  (e_LokL (e_caL (q' := n_241) rfl (xr_callV (q' := n_241) (ix := 226) (n := 1) (in_t9 (List.mem_of_getElem? (i := 79) rfl) rfl) good_w (in_t1 (List.mem_of_getElem? (i := 1) rfl) rfl) (in_t9 (List.mem_of_getElem? (i := 76) rfl) rfl) (in_t9 (List.mem_of_getElem? (i := 77) rfl) rfl) (in_t9 (List.mem_of_getElem? (i := 78) rfl) rfl) (by decide +kernel) (by decide +kernel) (by decide +kernel) (x_dk dn_0_15_ok 35 rfl))))
  (e_LokL (e_stL (er_pop (x_dk dn_0_15_ok 36 rfl))))))))
  (e_TokL
  (e_TokL
  (e_TokL
  (e_LokL (e_stL (er_aload_n (i := 2) (x_dk dn_0_15_ok 37 rfl))))
  (e_TokL
  (e_LokL (e_stL (er_aload_n (i := 0) (x_dk dn_0_15_ok 38 rfl))))
  (e_LokL (e_stL (er_iload_n (i := 3) (x_dk dn_0_15_ok 39 rfl))))))
  (e_TokL
  (e_LokL (e_stL (er_iconst (n := 1) (z := 1) (v := 1) (x_dk dn_0_15_ok 40 rfl) (by decide) (by decide))))
  (e_TokL
  (e_LokL (e_stL (er_iadd (x_dk dn_0_15_ok 41 rfl))))
  (e_LokL (Or.inr (Or.inr ⟨rfl, (x_dk dn_0_15_ok 42 rfl)⟩))))))
  (e_TokL
  (e_TokL
  (e_LokL (e_caL (q' := n_451) rfl (xr_callV (q' := n_451) (ix := 229) (n := 1) (in_t14 (List.mem_of_getElem? (i := 24) rfl) rfl) good_w (in_t1 (List.mem_of_getElem? (i := 14) rfl) rfl) (in_t14 (List.mem_of_getElem? (i := 21) rfl) rfl) (in_t14 (List.mem_of_getElem? (i := 22) rfl) rfl) (in_t14 (List.mem_of_getElem? (i := 23) rfl) rfl) (by decide +kernel) (by decide +kernel) (by decide +kernel) (x_dk dn_0_15_ok 43 rfl))))
  (e_TokL
  (e_LokL (e_stL (er_pop (x_dk dn_0_15_ok 44 rfl))))
  (e_LokL (e_stL (er_goto (off := 3) (tg := 2142) (x_dk dn_0_15_ok 45 rfl) (by decide))))))
  (e_TokL
  (e_TokL
  (e_LokL (e_stL (er_iinc (i := 3) (n := 6) (x_dk dn_0_15_ok 46 rfl) (by decide +kernel) (by decide))))
  (e_LokL (e_stL (er_goto (off := (-2127)) (tg := 18) (x_dk dn_0_15_ok 47 rfl) (by decide)))))
  (e_TokL
  (e_LokL (e_stL (er_iconst (n := 1) (z := 1) (v := 1) (x_dk dn_0_15_ok 48 rfl) (by decide) (by decide))))
  (e_LokL (show x_Rt (xm_b n_0) (xm_r n_0) 2149 4 from ⟨(x_dk dn_0_15_ok 49 rfl), rfl⟩)))))))
def codeL (L : Nat) (xs : Nat → Int32) (_M : Nat) : Nat → eE := (e_T 1146 ((e_T 686 ((e_T 462 ((e_T 357 ((e_T 293 ((e_T 267 (te_0_0 L xs) (te_0_24 L xs))) ((e_T 321 (te_0_48 L xs) (te_0_72 L xs))))) ((e_T 411 ((e_T 383 (te_0_96 L xs) (te_0_120 L xs))) ((e_T 437 (te_0_144 L xs) (te_0_168 L xs))))))) ((e_T 575 ((e_T 516 ((e_T 490 (te_0_193 L xs) (te_0_217 L xs))) ((e_T 546 (te_0_241 L xs) (te_0_265 L xs))))) ((e_T 629 ((e_T 601 (te_0_290 L xs) (te_0_314 L xs))) ((e_T 655 (te_0_338 L xs) (te_0_362 L xs))))))))) ((e_T 908 ((e_T 795 ((e_T 740 ((e_T 714 (te_0_387 L xs) (te_0_411 L xs))) ((e_T 766 (te_0_435 L xs) (te_0_459 L xs))))) ((e_T 851 ((e_T 823 (te_0_484 L xs) (te_0_508 L xs))) ((e_T 879 (te_0_532 L xs) (te_0_556 L xs))))))) ((e_T 1019 ((e_T 962 ((e_T 934 (te_0_581 L xs) (te_0_605 L xs))) ((e_T 988 (te_0_629 L xs) (te_0_653 L xs))))) ((e_T 1083 ((e_T 1049 (te_0_678 L xs) (te_0_702 L xs))) ((e_T 1115 (te_0_726 L xs) (te_0_750 L xs))))))))))) ((e_T 1651 ((e_T 1403 ((e_T 1276 ((e_T 1214 ((e_T 1180 (te_0_775 L xs) (te_0_799 L xs))) ((e_T 1246 (te_0_823 L xs) (te_0_847 L xs))))) ((e_T 1336 ((e_T 1306 (te_0_871 L xs) (te_0_895 L xs))) ((e_T 1368 (te_0_919 L xs) (te_0_943 L xs))))))) ((e_T 1534 ((e_T 1473 ((e_T 1435 (te_0_968 L xs) (te_0_992 L xs))) ((e_T 1505 (te_0_1016 L xs) (te_0_1040 L xs))))) ((e_T 1592 ((e_T 1564 (te_0_1065 L xs) (te_0_1089 L xs))) ((e_T 1620 (te_0_1113 L xs) (te_0_1137 L xs))))))))) ((e_T 1893 ((e_T 1776 ((e_T 1717 ((e_T 1685 (te_0_1162 L xs) (te_0_1186 L xs))) ((e_T 1747 (te_0_1210 L xs) (te_0_1234 L xs))))) ((e_T 1832 ((e_T 1806 (te_0_1259 L xs) (te_0_1283 L xs))) ((e_T 1862 (te_0_1307 L xs) (te_0_1331 L xs))))))) ((e_T 2018 ((e_T 1953 ((e_T 1923 (te_0_1356 L xs) (te_0_1380 L xs))) ((e_T 1983 (te_0_1404 L xs) (te_0_1428 L xs))))) ((e_T 2080 ((e_T 2050 (te_0_1453 L xs) (te_0_1477 L xs))) ((e_T 2110 (te_0_1501 L xs) (te_0_1525 L xs))))))))))))
theorem codeL_ok (L : Nat) (xs : Nat → Int32) : ∀ pc, e_EOl L xs pc (codeL L xs 0 pc) := (e_TokL ((e_TokL ((e_TokL ((e_TokL ((e_TokL ((e_TokL (te_0_0_ok L xs) (te_0_24_ok L xs))) ((e_TokL (te_0_48_ok L xs) (te_0_72_ok L xs))))) ((e_TokL ((e_TokL (te_0_96_ok L xs) (te_0_120_ok L xs))) ((e_TokL (te_0_144_ok L xs) (te_0_168_ok L xs))))))) ((e_TokL ((e_TokL ((e_TokL (te_0_193_ok L xs) (te_0_217_ok L xs))) ((e_TokL (te_0_241_ok L xs) (te_0_265_ok L xs))))) ((e_TokL ((e_TokL (te_0_290_ok L xs) (te_0_314_ok L xs))) ((e_TokL (te_0_338_ok L xs) (te_0_362_ok L xs))))))))) ((e_TokL ((e_TokL ((e_TokL ((e_TokL (te_0_387_ok L xs) (te_0_411_ok L xs))) ((e_TokL (te_0_435_ok L xs) (te_0_459_ok L xs))))) ((e_TokL ((e_TokL (te_0_484_ok L xs) (te_0_508_ok L xs))) ((e_TokL (te_0_532_ok L xs) (te_0_556_ok L xs))))))) ((e_TokL ((e_TokL ((e_TokL (te_0_581_ok L xs) (te_0_605_ok L xs))) ((e_TokL (te_0_629_ok L xs) (te_0_653_ok L xs))))) ((e_TokL ((e_TokL (te_0_678_ok L xs) (te_0_702_ok L xs))) ((e_TokL (te_0_726_ok L xs) (te_0_750_ok L xs))))))))))) ((e_TokL ((e_TokL ((e_TokL ((e_TokL ((e_TokL (te_0_775_ok L xs) (te_0_799_ok L xs))) ((e_TokL (te_0_823_ok L xs) (te_0_847_ok L xs))))) ((e_TokL ((e_TokL (te_0_871_ok L xs) (te_0_895_ok L xs))) ((e_TokL (te_0_919_ok L xs) (te_0_943_ok L xs))))))) ((e_TokL ((e_TokL ((e_TokL (te_0_968_ok L xs) (te_0_992_ok L xs))) ((e_TokL (te_0_1016_ok L xs) (te_0_1040_ok L xs))))) ((e_TokL ((e_TokL (te_0_1065_ok L xs) (te_0_1089_ok L xs))) ((e_TokL (te_0_1113_ok L xs) (te_0_1137_ok L xs))))))))) ((e_TokL ((e_TokL ((e_TokL ((e_TokL (te_0_1162_ok L xs) (te_0_1186_ok L xs))) ((e_TokL (te_0_1210_ok L xs) (te_0_1234_ok L xs))))) ((e_TokL ((e_TokL (te_0_1259_ok L xs) (te_0_1283_ok L xs))) ((e_TokL (te_0_1307_ok L xs) (te_0_1331_ok L xs))))))) ((e_TokL ((e_TokL ((e_TokL (te_0_1356_ok L xs) (te_0_1380_ok L xs))) ((e_TokL (te_0_1404_ok L xs) (te_0_1428_ok L xs))))) ((e_TokL ((e_TokL (te_0_1453_ok L xs) (te_0_1477_ok L xs))) ((e_TokL (te_0_1501_ok L xs) (te_0_1525_ok L xs))))))))))))
end
