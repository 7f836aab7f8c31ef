/-! BandCornets, piece 3: tables and readings, by program. Own work. -/
abbrev i_X4_append : eI := (yX4_append, cX4_append, 2, (some .int), 10)
theorem cl_X4_append : e_Cl i_X4_append 1 := ⟨wd_1204, wd_73, ⟨by decide, by decide⟩, by decide +kernel, by decide⟩
def tb_X4_append : eTb := [(0, t_ldI 1 1 0), (1, t_push (.inl 33) 2 1), (3, t_ic (fun a b => a < b) 12 3), (6, t_ldI 1 1 6), (7, t_push (.inl 126) 2 7), (9, t_ic (fun a b => a ≤ b) 22 9), (12, t_throw "java/lang/IllegalArgumentException"), (22, t_ldO 0 1 22), (23, t_getR e_rf 4 5 23), (26, t_call0 1 w_X3_length 26), (29, t_push (.inl 60) 2 29), (31, t_ic (fun a b => a < b) 44 31), (34, t_throw "java/lang/IllegalStateException"), (44, t_ldO 0 1 44), (45, t_getR e_rf 4 5 45), (48, t_ldI 1 1 48), (49, t_i1 (fun a => .inl (a.toUInt32 % 65536).toInt32) 49), (50, t_call 2 1 70 w_X3_add 50), (53, t_ldO 0 1 53), (54, t_getR e_rf 4 5 54), (57, t_call0 1 w_X3_length 57), (60, t_jret)]
theorem st_X4_append : ∀ x ∈ tb_X4_append, e_Sd e_rf RX4 i_X4_append x.1 x.2 :=
  e_more (s_iload_n (k := 1) (by decide +kernel) rfl) (
  e_more (s_bipush (n := 33) (v := 33) (by decide +kernel) (by decide)) (
  e_more (s_ic_lt (off := 9) (by decide +kernel) (by decide)) (
  e_more (s_iload_n (k := 1) (by decide +kernel) rfl) (
  e_more (s_bipush (n := 126) (v := 126) (by decide +kernel) (by decide)) (
  e_more (s_ic_le (off := 13) (by decide +kernel) (by decide)) (
  e_more (s_throw (text := "a code is 33 to 126") (ik := 49) (is := 207) (ic := 53) ⟨rfl, by decide⟩ ⟨by decide +kernel, wd_956, wd_86, by decide +kernel, xat_53, by decide +kernel, by decide +kernel, (Or.inl ⟨by decide +kernel, by decide +kernel, by decide +kernel⟩)⟩) (
  e_more (s_aload_n (k := 0) (by decide +kernel) rfl) (
  e_more (s_getR (c := 4) (j := 5) (idx := 34) (by decide +kernel) (by decide) (by decide) rfl wd_290) (
  e_more (e_call0 (s_callV (c := 3) (idx := 209) k_X3_length (by decide +kernel) cl_X3_length (by decide) rfl wd_314 wd_315 wd_316 (by decide) (e_sf_rec rfl))) (
  e_more (s_bipush (n := 60) (v := 60) (by decide +kernel) (by decide)) (
  e_more (s_ic_lt (off := 13) (by decide +kernel) (by decide)) (
  e_more (s_throw (text := "the buffer has 60 characters") (ik := 60) (is := 212) (ic := 64) ⟨rfl, by decide⟩ ⟨by decide +kernel, wd_963, wd_87, by decide +kernel, xat_64, by decide +kernel, by decide +kernel, (Or.inl ⟨by decide +kernel, by decide +kernel, by decide +kernel⟩)⟩) (
  e_more (s_aload_n (k := 0) (by decide +kernel) rfl) (
  e_more (s_getR (c := 4) (j := 5) (idx := 34) (by decide +kernel) (by decide) (by decide) rfl wd_290) (
  e_more (s_iload_n (k := 1) (by decide +kernel) rfl) (
  e_more (s_i2c (by decide +kernel)) (
  e_more (s_callV (c := 3) (idx := 214) k_X3_add (by decide +kernel) cl_X3_add (by decide) rfl wd_1207 wd_1208 wd_1209 (by decide) (e_sf_rec rfl)) (
  e_more (s_aload_n (k := 0) (by decide +kernel) rfl) (
  e_more (s_getR (c := 4) (j := 5) (idx := 34) (by decide +kernel) (by decide) (by decide) rfl wd_290) (
  e_more (e_call0 (s_callV (c := 3) (idx := 209) k_X3_length (by decide +kernel) cl_X3_length (by decide) rfl wd_314 wd_315 wd_316 (by decide) (e_sf_rec rfl))) (
  e_more (s_jret (by decide +kernel) rfl) (
  e_no_more))))))))))))))))))))))
def x_X4_append : eWX := e_sfx 0 (e_rnx tb_X4_append (iL i_X4_append) 2 76)
theorem kx_X4_append : e_OX e_rf i_X4_append 2 76 x_X4_append := kx_sf (kx_rn (own := RX4) ⟨by decide +kernel, rfl⟩ st_X4_append)
abbrev i_X4_clearBuffer : eI := (yX4_clearBuffer, cX4_clearBuffer, 2, (some .int), 23)
theorem cl_X4_clearBuffer : e_Cl i_X4_clearBuffer 0 := ⟨wd_313, wd_73, ⟨by decide, by decide⟩, by decide +kernel, by decide⟩
def tb_X4_clearBuffer : eTb := [(0, t_ldO 0 1 0), (1, t_getR e_rf 4 5 1), (4, t_call0 1 w_X3_length 4), (7, t_stI 1 1 7), (8, t_ldO 0 1 8), (9, t_getR e_rf 4 5 9), (12, t_call 1 1 70 w_X3_clear 12), (15, t_ldI 1 1 15), (16, t_jret)]
theorem st_X4_clearBuffer : ∀ x ∈ tb_X4_clearBuffer, e_Sd e_rf RX4 i_X4_clearBuffer x.1 x.2 :=
  e_more (s_aload_n (k := 0) (by decide +kernel) rfl) (
  e_more (s_getR (c := 4) (j := 5) (idx := 34) (by decide +kernel) (by decide) (by decide) rfl wd_290) (
  e_more (e_call0 (s_callV (c := 3) (idx := 209) k_X3_length (by decide +kernel) cl_X3_length (by decide) rfl wd_314 wd_315 wd_316 (by decide) (e_sf_rec rfl))) (
  e_more (s_istore_n (k := 1) (by decide +kernel) rfl (by decide)) (
  e_more (s_aload_n (k := 0) (by decide +kernel) rfl) (
  e_more (s_getR (c := 4) (j := 5) (idx := 34) (by decide +kernel) (by decide) (by decide) rfl wd_290) (
  e_more (s_callV (c := 3) (idx := 218) k_X3_clear (by decide +kernel) cl_X3_clear (by decide) rfl wd_325 wd_326 wd_327 (by decide) (e_sf_rec rfl)) (
  e_more (s_iload_n (k := 1) (by decide +kernel) rfl) (
  e_more (s_jret (by decide +kernel) rfl) (
  e_no_more)))))))))
def w_X4_clearBuffer : eW := e_sf 0 (e_rn tb_X4_clearBuffer (iL i_X4_clearBuffer) 1 70)
theorem k_X4_clearBuffer : e_OK e_rf i_X4_clearBuffer 1 70 w_X4_clearBuffer := k_sf (k_rn (own := RX4) ⟨by decide +kernel, rfl⟩ st_X4_clearBuffer)
abbrev i_X4_firstError : eI := (yX4_firstError, cX4_firstError, 1, (some .int), 8)
theorem cl_X4_firstError : e_Cl i_X4_firstError 0 := ⟨wd_669, wd_73, ⟨by decide, by decide⟩, by decide +kernel, by decide⟩
def tb_X4_firstError : eTb := [(0, t_ldO 0 1 0), (1, t_getR e_rf 4 5 1), (4, t_call0 1 w_X3_firstWrong 4), (7, t_jret)]
theorem st_X4_firstError : ∀ x ∈ tb_X4_firstError, e_Sd e_rf RX4 i_X4_firstError x.1 x.2 :=
  e_more (s_aload_n (k := 0) (by decide +kernel) rfl) (
  e_more (s_getR (c := 4) (j := 5) (idx := 34) (by decide +kernel) (by decide) (by decide) rfl wd_290) (
  e_more (e_call0 (s_callV (c := 3) (idx := 221) k_X3_firstWrong (by decide +kernel) cl_X3_firstWrong (by decide) rfl wd_670 wd_671 wd_672 (by decide) (e_sf_rec rfl))) (
  e_more (s_jret (by decide +kernel) rfl) (
  e_no_more))))
def w_X4_firstError : eW := e_sf 0 (e_rn tb_X4_firstError (iL i_X4_firstError) 0 0)
theorem k_X4_firstError : e_OK e_rf i_X4_firstError 0 0 w_X4_firstError := k_sf (k_rn (own := RX4) ⟨by decide +kernel, rfl⟩ st_X4_firstError)
abbrev i_X4_doPart : eI := (yX4_doPart, cX4_doPart, 4, (some .boolean), 7)
theorem cl_X4_doPart : e_Cl i_X4_doPart 2 := ⟨wd_1232, wd_73, ⟨by decide, by decide⟩, by decide +kernel, by decide⟩
def tb_X4_doPart_0 : eTb := [(0, t_ldO 0 1 0), (1, t_getR e_rf 4 5 1), (4, t_ldI 2 1 4), (5, t_push (.inl 1) 1 5), (6, t_ii (fun a b => a - b) 6), (7, t_call0 2 w_X3_figureAt 7), (10, t_stI 3 1 10), (11, t_ldO 0 1 11), (12, t_getR e_rf 4 5 12), (15, t_ldI 1 1 15), (16, t_ldI 2 1 16), (17, t_call0 3 w_X3_wholeWord 17), (20, t_sw [(0, 60), (1, 79), (2, 88), (3, 107), (4, 134), (5, 143)] 152), (60, t_ldO 0 1 60), (61, t_getR e_rf 4 0 61), (64, t_ldO 0 1 64), (65, t_getR e_rf 4 5 65), (68, t_ldI 2 1 68), (69, t_push (.inl 2) 1 69), (70, t_ii (fun a b => a - b) 70), (71, t_call0 2 w_X3_figureAt 71), (74, t_ldI 3 1 74), (75, t_call0 3 w_X0_tryLend 75), (78, t_zret), (79, t_ldO 0 1 79), (80, t_getR e_rf 4 0 80), (83, t_ldI 3 1 83), (84, t_call0 2 w_X0_tryBack 84), (87, t_zret), (88, t_ldO 0 1 88), (89, t_getR e_rf 4 0 89), (92, t_ldO 0 1 92), (93, t_getR e_rf 4 5 93), (96, t_ldI 2 1 96), (97, t_push (.inl 2) 1 97), (98, t_ii (fun a b => a - b) 98), (99, t_call0 2 w_X3_figureAt 99), (102, t_ldI 3 1 102), (103, t_call0 3 w_X0_tryTeach 103), (106, t_zret)]
theorem st_X4_doPart_0 : ∀ x ∈ tb_X4_doPart_0, e_Sd e_rf RX4 i_X4_doPart x.1 x.2 :=
  e_more (s_aload_n (k := 0) (by decide +kernel) rfl) (
  e_more (s_getR (c := 4) (j := 5) (idx := 34) (by decide +kernel) (by decide) (by decide) rfl wd_290) (
  e_more (s_iload_n (k := 2) (by decide +kernel) rfl) (
  e_more (s_iconst (n := 1) (v := 1) (by decide +kernel) (by decide)) (
  e_more (s_isub (by decide +kernel)) (
  e_more (e_call0 (s_callV (c := 3) (idx := 416) k_X3_figureAt (by decide +kernel) cl_X3_figureAt (by decide) rfl wd_1233 wd_1234 wd_1235 (by decide) (e_sf_rec rfl))) (
  e_more (s_istore_n (k := 3) (by decide +kernel) rfl (by decide)) (
  e_more (s_aload_n (k := 0) (by decide +kernel) rfl) (
  e_more (s_getR (c := 4) (j := 5) (idx := 34) (by decide +kernel) (by decide) (by decide) rfl wd_290) (
  e_more (s_iload_n (k := 1) (by decide +kernel) rfl) (
  e_more (s_iload_n (k := 2) (by decide +kernel) rfl) (
  e_more (e_call0 (s_callV (c := 3) (idx := 419) k_X3_wholeWord (by decide +kernel) cl_X3_wholeWord (by decide) rfl wd_1237 wd_694 wd_695 (by decide) (e_sf_rec rfl))) (
  e_more (s_table (dflt := 132) (lo := 0) (hi := 5) (offs := #[40, 59, 68, 87, 114, 123]) (len := 40) (l := [(0, 60), (1, 79), (2, 88), (3, 107), (4, 134), (5, 143)]) (by decide +kernel) (by decide +kernel) (by decide +kernel) (by decide)) (
  e_more (s_aload_n (k := 0) (by decide +kernel) rfl) (
  e_more (s_getR (c := 4) (j := 0) (idx := 10) (by decide +kernel) (by decide) (by decide) rfl wd_285) (
  e_more (s_aload_n (k := 0) (by decide +kernel) rfl) (
  e_more (s_getR (c := 4) (j := 5) (idx := 34) (by decide +kernel) (by decide) (by decide) rfl wd_290) (
  e_more (s_iload_n (k := 2) (by decide +kernel) rfl) (
  e_more (s_iconst (n := 2) (v := 2) (by decide +kernel) (by decide)) (
  e_more (s_isub (by decide +kernel)) (
  e_more (e_call0 (s_callV (c := 3) (idx := 416) k_X3_figureAt (by decide +kernel) cl_X3_figureAt (by decide) rfl wd_1233 wd_1234 wd_1235 (by decide) (e_sf_rec rfl))) (
  e_more (s_iload_n (k := 3) (by decide +kernel) rfl) (
  e_more (e_call0 (s_callV (c := 0) (idx := 101) k_X0_tryLend (by decide +kernel) cl_X0_tryLend (by decide) rfl wd_1040 wd_1041 wd_1042 (by decide) (e_sf_rec rfl))) (
  e_more (s_zret (by decide +kernel) rfl) (
  e_more (s_aload_n (k := 0) (by decide +kernel) rfl) (
  e_more (s_getR (c := 4) (j := 0) (idx := 10) (by decide +kernel) (by decide) (by decide) rfl wd_285) (
  e_more (s_iload_n (k := 3) (by decide +kernel) rfl) (
  e_more (e_call0 (s_callV (c := 0) (idx := 121) k_X0_tryBack (by decide +kernel) cl_X0_tryBack (by decide) rfl wd_1060 wd_1061 wd_1062 (by decide) (e_sf_rec rfl))) (
  e_more (s_zret (by decide +kernel) rfl) (
  e_more (s_aload_n (k := 0) (by decide +kernel) rfl) (
  e_more (s_getR (c := 4) (j := 0) (idx := 10) (by decide +kernel) (by decide) (by decide) rfl wd_285) (
  e_more (s_aload_n (k := 0) (by decide +kernel) rfl) (
  e_more (s_getR (c := 4) (j := 5) (idx := 34) (by decide +kernel) (by decide) (by decide) rfl wd_290) (
  e_more (s_iload_n (k := 2) (by decide +kernel) rfl) (
  e_more (s_iconst (n := 2) (v := 2) (by decide +kernel) (by decide)) (
  e_more (s_isub (by decide +kernel)) (
  e_more (e_call0 (s_callV (c := 3) (idx := 416) k_X3_figureAt (by decide +kernel) cl_X3_figureAt (by decide) rfl wd_1233 wd_1234 wd_1235 (by decide) (e_sf_rec rfl))) (
  e_more (s_iload_n (k := 3) (by decide +kernel) rfl) (
  e_more (e_call0 (s_callV (c := 0) (idx := 186) k_X0_tryTeach (by decide +kernel) cl_X0_tryTeach (by decide) rfl wd_1155 wd_1156 wd_1157 (by decide) (e_sf_rec rfl))) (
  e_more (s_zret (by decide +kernel) rfl) (
  e_no_more))))))))))))))))))))))))))))))))))))))))
def tb_X4_doPart_1 : eTb := [(107, t_ldI 3 1 107), (108, t_call0 1 w_X4_isMarch 108), (111, t_if (fun a => a = 0) 124 111), (114, t_ldO 0 1 114), (115, t_getR e_rf 4 0 115), (118, t_call0 1 w_X0_mayMarch 118), (121, t_ifn (fun a => a = 0) 126 121), (124, t_push (.inl 0) 1 124), (125, t_zret), (126, t_ldO 0 1 126), (127, t_ldI 3 1 127), (128, t_call0 2 w_X4_playMarch 128), (131, t_pop 131), (132, t_push (.inl 1) 1 132), (133, t_zret), (134, t_ldO 0 1 134), (135, t_getR e_rf 4 0 135), (138, t_ldI 3 1 138), (139, t_call0 2 w_X0_tryMend 139), (142, t_zret), (143, t_ldO 0 1 143), (144, t_getR e_rf 4 0 144), (147, t_call0 1 w_X0_passDay 147), (150, t_push (.inl 1) 1 150), (151, t_zret), (152, t_push (.inl 0) 1 152), (153, t_zret)]
theorem st_X4_doPart_1 : ∀ x ∈ tb_X4_doPart_1, e_Sd e_rf RX4 i_X4_doPart x.1 x.2 :=
  e_more (s_iload_n (k := 3) (by decide +kernel) rfl) (
  e_more (e_call0 (s_callS (idx := 194) k_X4_isMarch (by decide +kernel) cl_X4_isMarch wd_1172 wd_1173 (by decide))) (
  e_more (s_if_eq (off := 13) (by decide +kernel) (by decide)) (
  e_more (s_aload_n (k := 0) (by decide +kernel) rfl) (
  e_more (s_getR (c := 4) (j := 0) (idx := 10) (by decide +kernel) (by decide) (by decide) rfl wd_285) (
  e_more (e_call0 (s_callV (c := 0) (idx := 199) k_X0_mayMarch (by decide +kernel) cl_X0_mayMarch (by decide) rfl wd_1176 wd_1177 wd_1178 (by decide) (e_sf_rec rfl))) (
  e_more (s_if_ne (off := 5) (by decide +kernel) (by decide)) (
  e_more (s_iconst (n := 0) (v := 0) (by decide +kernel) (by decide)) (
  e_more (s_zret (by decide +kernel) rfl) (
  e_more (s_aload_n (k := 0) (by decide +kernel) rfl) (
  e_more (s_iload_n (k := 3) (by decide +kernel) rfl) (
  e_more (e_call0 (s_callV (c := 4) (idx := 204) k_X4_playMarch (by decide +kernel) cl_X4_playMarch (by decide) rfl wd_1181 wd_1183 wd_17 (by decide) (e_sf_rec rfl))) (
  e_more (s_pop (by decide +kernel)) (
  e_more (s_iconst (n := 1) (v := 1) (by decide +kernel) (by decide)) (
  e_more (s_zret (by decide +kernel) rfl) (
  e_more (s_aload_n (k := 0) (by decide +kernel) rfl) (
  e_more (s_getR (c := 4) (j := 0) (idx := 10) (by decide +kernel) (by decide) (by decide) rfl wd_285) (
  e_more (s_iload_n (k := 3) (by decide +kernel) rfl) (
  e_more (e_call0 (s_callV (c := 0) (idx := 140) k_X0_tryMend (by decide +kernel) cl_X0_tryMend (by decide) rfl wd_1094 wd_1095 wd_1096 (by decide) (e_sf_rec rfl))) (
  e_more (s_zret (by decide +kernel) rfl) (
  e_more (s_aload_n (k := 0) (by decide +kernel) rfl) (
  e_more (s_getR (c := 4) (j := 0) (idx := 10) (by decide +kernel) (by decide) (by decide) rfl wd_285) (
  e_more (e_call0 (s_callV (c := 0) (idx := 170) k_X0_passDay (by decide +kernel) cl_X0_passDay (by decide) rfl wd_1139 wd_1140 wd_1141 (by decide) (e_sf_rec rfl))) (
  e_more (s_iconst (n := 1) (v := 1) (by decide +kernel) (by decide)) (
  e_more (s_zret (by decide +kernel) rfl) (
  e_more (s_iconst (n := 0) (v := 0) (by decide +kernel) (by decide)) (
  e_more (s_zret (by decide +kernel) rfl) (
  e_no_more)))))))))))))))))))))))))))
def tb_X4_doPart : eTb := tb_X4_doPart_0 ++ tb_X4_doPart_1
theorem st_X4_doPart : ∀ x ∈ tb_X4_doPart, e_Sd e_rf RX4 i_X4_doPart x.1 x.2 := e_app (st_X4_doPart_0) st_X4_doPart_1
def w_X4_doPart : eW := e_sf 0 (e_rn tb_X4_doPart (iL i_X4_doPart) 0 0)
theorem k_X4_doPart : e_OK e_rf i_X4_doPart 0 0 w_X4_doPart := k_sf (k_rn (own := RX4) ⟨by decide +kernel, rfl⟩ st_X4_doPart)
abbrev i_X4_work : eI := (yX4_work, cX4_work, 5, (some .int), 23)
theorem cl_X4_work : e_Cl i_X4_work 0 := ⟨wd_1218, wd_73, ⟨by decide, by decide⟩, by decide +kernel, by decide⟩
def tb_X4_work_0 : eTb := [(0, t_ldO 0 1 0), (1, t_getR e_rf 4 5 1), (4, t_call0 1 w_X3_isComplete 4), (7, t_ifn (fun a => a = 0) 20 7), (10, t_throw "java/lang/IllegalArgumentException"), (20, t_ldO 0 1 20), (21, t_call0 1 w_X4_save 21), (24, t_push (.inl 0) 1 24), (25, t_stI 1 1 25), (26, t_push (.inl 0) 1 26), (27, t_stI 2 1 27), (28, t_push (.inl 1) 1 28), (29, t_stI 3 1 29), (30, t_push (.inl 0) 1 30), (31, t_stI 4 2 31), (33, t_ldI 3 1 33), (34, t_if (fun a => a = 0) 92 34), (37, t_ldI 4 2 37), (39, t_ldO 0 1 39), (40, t_getR e_rf 4 5 40), (43, t_call0 1 w_X3_length 43), (46, t_ic (fun a b => b < a) 92 46), (49, t_ldO 0 1 49), (50, t_getR e_rf 4 5 50), (53, t_ldI 4 2 53), (55, t_call0 2 w_X3_isEndOfPart 55), (58, t_if (fun a => a = 0) 86 58), (61, t_ldO 0 1 61), (62, t_ldI 2 1 62), (63, t_ldI 4 2 63), (65, t_call0 3 w_X4_doPart 65), (68, t_stI 3 1 68), (69, t_ldI 1 1 69), (70, t_ldI 3 1 70), (71, t_if (fun a => a = 0) 78 71), (74, t_push (.inl 1) 1 74), (75, t_goto 79), (78, t_push (.inl 0) 1 78), (79, t_ii (fun a b => a + b) 79), (80, t_stI 1 1 80)]
theorem st_X4_work_0 : ∀ x ∈ tb_X4_work_0, e_Sd e_rf RX4 i_X4_work x.1 x.2 :=
  e_more (s_aload_n (k := 0) (by decide +kernel) rfl) (
  e_more (s_getR (c := 4) (j := 5) (idx := 34) (by decide +kernel) (by decide) (by decide) rfl wd_290) (
  e_more (e_call0 (s_callV (c := 3) (idx := 224) k_X3_isComplete (by decide +kernel) cl_X3_isComplete (by decide) rfl wd_1219 wd_1220 wd_1221 (by decide) (e_sf_rec rfl))) (
  e_more (s_if_ne (off := 13) (by decide +kernel) (by decide)) (
  e_more (s_throw (text := "the buffer is not complete works as a text") (ik := 49) (is := 227) (ic := 53) ⟨rfl, by decide⟩ ⟨by decide +kernel, wd_956, wd_86, by decide +kernel, xat_53, by decide +kernel, by decide +kernel, (Or.inl ⟨by decide +kernel, by decide +kernel, by decide +kernel⟩)⟩) (
  e_more (s_aload_n (k := 0) (by decide +kernel) rfl) (
  e_more (e_call0 (s_callV (c := 4) (idx := 65) k_X4_save (by decide +kernel) cl_X4_save (by decide) rfl wd_979 wd_981 wd_15 (by decide) (e_sf_rec rfl))) (
  e_more (s_iconst (n := 0) (v := 0) (by decide +kernel) (by decide)) (
  e_more (s_istore_n (k := 1) (by decide +kernel) rfl (by decide)) (
  e_more (s_iconst (n := 0) (v := 0) (by decide +kernel) (by decide)) (
  e_more (s_istore_n (k := 2) (by decide +kernel) rfl (by decide)) (
  e_more (s_iconst (n := 1) (v := 1) (by decide +kernel) (by decide)) (
  e_more (s_istore_n (k := 3) (by decide +kernel) rfl (by decide)) (
  e_more (s_iconst (n := 0) (v := 0) (by decide +kernel) (by decide)) (
  e_more (s_istore (by decide +kernel) (by decide)) (
  e_more (s_iload_n (k := 3) (by decide +kernel) rfl) (
  e_more (s_if_eq (off := 58) (by decide +kernel) (by decide)) (
  e_more (s_iload (by decide +kernel)) (
  e_more (s_aload_n (k := 0) (by decide +kernel) rfl) (
  e_more (s_getR (c := 4) (j := 5) (idx := 34) (by decide +kernel) (by decide) (by decide) rfl wd_290) (
  e_more (e_call0 (s_callV (c := 3) (idx := 209) k_X3_length (by decide +kernel) cl_X3_length (by decide) rfl wd_314 wd_315 wd_316 (by decide) (e_sf_rec rfl))) (
  e_more (s_ic_gt (off := 46) (by decide +kernel) (by decide)) (
  e_more (s_aload_n (k := 0) (by decide +kernel) rfl) (
  e_more (s_getR (c := 4) (j := 5) (idx := 34) (by decide +kernel) (by decide) (by decide) rfl wd_290) (
  e_more (s_iload (by decide +kernel)) (
  e_more (e_call0 (s_callV (c := 3) (idx := 229) k_X3_isEndOfPart (by decide +kernel) cl_X3_isEndOfPart (by decide) rfl wd_1228 wd_1224 wd_1225 (by decide) (e_sf_rec rfl))) (
  e_more (s_if_eq (off := 28) (by decide +kernel) (by decide)) (
  e_more (s_aload_n (k := 0) (by decide +kernel) rfl) (
  e_more (s_iload_n (k := 2) (by decide +kernel) rfl) (
  e_more (s_iload (by decide +kernel)) (
  e_more (e_call0 (s_callV (c := 4) (idx := 232) k_X4_doPart (by decide +kernel) cl_X4_doPart (by decide) rfl wd_1229 wd_1231 wd_18 (by decide) (e_sf_rec rfl))) (
  e_more (s_istore_n (k := 3) (by decide +kernel) rfl (by decide)) (
  e_more (s_iload_n (k := 1) (by decide +kernel) rfl) (
  e_more (s_iload_n (k := 3) (by decide +kernel) rfl) (
  e_more (s_if_eq (off := 7) (by decide +kernel) (by decide)) (
  e_more (s_iconst (n := 1) (v := 1) (by decide +kernel) (by decide)) (
  e_more (s_goto (off := 4) (by decide +kernel) (by decide)) (
  e_more (s_iconst (n := 0) (v := 0) (by decide +kernel) (by decide)) (
  e_more (s_iadd (by decide +kernel)) (
  e_more (s_istore_n (k := 1) (by decide +kernel) rfl (by decide)) (
  e_no_more))))))))))))))))))))))))))))))))))))))))
def tb_X4_work_1 : eTb := [(81, t_ldI 4 2 81), (83, t_push (.inl 1) 1 83), (84, t_ii (fun a b => a + b) 84), (85, t_stI 2 1 85), (86, t_iinc 4 1 86), (89, t_goto 33), (92, t_ldO 0 1 92), (93, t_getR e_rf 4 5 93), (96, t_call 1 1 70 w_X3_clear 96), (99, t_ldI 1 1 99), (100, t_jret)]
theorem st_X4_work_1 : ∀ x ∈ tb_X4_work_1, e_Sd e_rf RX4 i_X4_work x.1 x.2 :=
  e_more (s_iload (by decide +kernel)) (
  e_more (s_iconst (n := 1) (v := 1) (by decide +kernel) (by decide)) (
  e_more (s_iadd (by decide +kernel)) (
  e_more (s_istore_n (k := 2) (by decide +kernel) rfl (by decide)) (
  e_more (s_iinc (z := 1) (n := 1) (by decide +kernel) (by decide) (by decide)) (
  e_more (s_goto (off := (-56)) (by decide +kernel) (by decide)) (
  e_more (s_aload_n (k := 0) (by decide +kernel) rfl) (
  e_more (s_getR (c := 4) (j := 5) (idx := 34) (by decide +kernel) (by decide) (by decide) rfl wd_290) (
  e_more (s_callV (c := 3) (idx := 218) k_X3_clear (by decide +kernel) cl_X3_clear (by decide) rfl wd_325 wd_326 wd_327 (by decide) (e_sf_rec rfl)) (
  e_more (s_iload_n (k := 1) (by decide +kernel) rfl) (
  e_more (s_jret (by decide +kernel) rfl) (
  e_no_more)))))))))))
def tb_X4_work : eTb := tb_X4_work_0 ++ tb_X4_work_1
theorem st_X4_work : ∀ x ∈ tb_X4_work, e_Sd e_rf RX4 i_X4_work x.1 x.2 := e_app (st_X4_work_0) st_X4_work_1
def x_X4_work : eWX := e_sfx 0 (e_rnx tb_X4_work (iL i_X4_work) 2 76)
theorem kx_X4_work : e_OX e_rf i_X4_work 2 76 x_X4_work := kx_sf (kx_rn (own := RX4) ⟨by decide +kernel, rfl⟩ st_X4_work)
abbrev i_X4_tellLineUp : eI := (yX4_tellLineUp, cX4_tellLineUp, 4, none, 22)
theorem cl_X4_tellLineUp : e_Cl i_X4_tellLineUp 1 := ⟨wd_908, wd_73, ⟨by decide, by decide⟩, by decide +kernel, by decide⟩
def tb_X4_tellLineUp_0 : eTb := [(0, t_ldO 0 1 0), (1, t_ldI 1 1 1), (2, t_call0 2 w_X4_fillLineUp 2), (5, t_pop 5), (6, t_ldO 0 1 6), (7, t_getR e_rf 4 7 7), (10, t_push (.inl 0) 1 10), (11, t_call 2 1 70 w_J4_setLength_d00df 11), (14, t_push (.inl 0) 1 14), (15, t_stI 2 1 15), (16, t_ldI 2 1 16), (17, t_push (.inl 4) 1 17), (18, t_ic (fun a b => b ≤ a) 100 18), (21, t_ldI 2 1 21), (22, t_if (fun a => a ≤ 0) 35 22), (25, t_ldO 0 1 25), (26, t_getR e_rf 4 7 26), (29, t_push (.inl 44) 2 29), (31, t_call 2 1 70 w_J4_append_cf468 31), (34, t_pop 34), (35, t_ldO 0 1 35), (36, t_getR e_rf 4 7 36), (39, t_ldI 1 1 39), (40, t_ldI 2 1 40), (41, t_call0 2 w_X4_kindOfPart 41), (44, t_call0 1 w_X4_nameOf 44), (47, t_call 2 1 70 w_J4_append_15ec4 47), (50, t_pop 50), (51, t_ldO 0 1 51), (52, t_getR e_rf 4 7 52), (55, t_push (.inl 58) 2 55), (57, t_call 2 1 70 w_J4_append_cf468 57), (60, t_pop 60), (61, t_ldO 0 1 61), (62, t_ldI 2 1 62), (63, t_call0 2 w_X4_playerOf 63), (66, t_stI 3 1 66), (67, t_ldI 3 1 67), (68, t_push (.inl (-1)) 1 68), (69, t_icn (fun a b => a = b) 85 69)]
theorem st_X4_tellLineUp_0 : ∀ x ∈ tb_X4_tellLineUp_0, e_Sd e_rf RX4 i_X4_tellLineUp x.1 x.2 :=
  e_more (s_aload_n (k := 0) (by decide +kernel) rfl) (
  e_more (s_iload_n (k := 1) (by decide +kernel) rfl) (
  e_more (e_call0 (s_callV (c := 4) (idx := 279) k_X4_fillLineUp (by decide +kernel) cl_X4_fillLineUp (by decide) rfl wd_760 wd_762 wd_3 (by decide) (e_sf_rec rfl))) (
  e_more (s_pop (by decide +kernel)) (
  e_more (s_aload_n (k := 0) (by decide +kernel) rfl) (
  e_more (s_getR (c := 4) (j := 7) (idx := 45) (by decide +kernel) (by decide) (by decide) rfl wd_292) (
  e_more (s_iconst (n := 0) (v := 0) (by decide +kernel) (by decide)) (
  e_more (s_callV (c := 6) (idx := 399) k_J4_setLength_d00df (by decide +kernel) cl_J4_setLength_d00df (by decide) rfl wd_909 wd_330 wd_331 (by decide) (e_sf_rec rfl)) (
  e_more (s_iconst (n := 0) (v := 0) (by decide +kernel) (by decide)) (
  e_more (s_istore_n (k := 2) (by decide +kernel) rfl (by decide)) (
  e_more (s_iload_n (k := 2) (by decide +kernel) rfl) (
  e_more (s_iconst (n := 4) (v := 4) (by decide +kernel) (by decide)) (
  e_more (s_ic_ge (off := 82) (by decide +kernel) (by decide)) (
  e_more (s_iload_n (k := 2) (by decide +kernel) rfl) (
  e_more (s_if_le (off := 13) (by decide +kernel) (by decide)) (
  e_more (s_aload_n (k := 0) (by decide +kernel) rfl) (
  e_more (s_getR (c := 4) (j := 7) (idx := 45) (by decide +kernel) (by decide) (by decide) rfl wd_292) (
  e_more (s_bipush (n := 44) (v := 44) (by decide +kernel) (by decide)) (
  e_more (s_callV (c := 6) (idx := 402) k_J4_append_cf468 (by decide +kernel) cl_J4_append_cf468 (by decide) rfl wd_910 wd_911 wd_912 (by decide) (e_sf_rec rfl)) (
  e_more (s_pop (by decide +kernel)) (
  e_more (s_aload_n (k := 0) (by decide +kernel) rfl) (
  e_more (s_getR (c := 4) (j := 7) (idx := 45) (by decide +kernel) (by decide) (by decide) rfl wd_292) (
  e_more (s_iload_n (k := 1) (by decide +kernel) rfl) (
  e_more (s_iload_n (k := 2) (by decide +kernel) rfl) (
  e_more (e_call0 (s_callS (idx := 331) k_X4_kindOfPart (by decide +kernel) cl_X4_kindOfPart wd_784 wd_785 (by decide))) (
  e_more (e_call0 (s_callS (idx := 406) k_X4_nameOf (by decide +kernel) cl_X4_nameOf wd_923 wd_924 (by decide))) (
  e_more (s_callV (c := 6) (idx := 410) k_J4_append_15ec4 (by decide +kernel) cl_J4_append_15ec4 (by decide) rfl wd_930 wd_345 wd_346 (by decide) (e_sf_rec rfl)) (
  e_more (s_pop (by decide +kernel)) (
  e_more (s_aload_n (k := 0) (by decide +kernel) rfl) (
  e_more (s_getR (c := 4) (j := 7) (idx := 45) (by decide +kernel) (by decide) (by decide) rfl wd_292) (
  e_more (s_bipush (n := 58) (v := 58) (by decide +kernel) (by decide)) (
  e_more (s_callV (c := 6) (idx := 402) k_J4_append_cf468 (by decide +kernel) cl_J4_append_cf468 (by decide) rfl wd_910 wd_911 wd_912 (by decide) (e_sf_rec rfl)) (
  e_more (s_pop (by decide +kernel)) (
  e_more (s_aload_n (k := 0) (by decide +kernel) rfl) (
  e_more (s_iload_n (k := 2) (by decide +kernel) rfl) (
  e_more (e_call0 (s_callV (c := 4) (idx := 340) k_X4_playerOf (by decide +kernel) cl_X4_playerOf (by decide) rfl wd_931 wd_933 wd_14 (by decide) (e_sf_rec rfl))) (
  e_more (s_istore_n (k := 3) (by decide +kernel) rfl (by decide)) (
  e_more (s_iload_n (k := 3) (by decide +kernel) rfl) (
  e_more (s_iconst (n := (-1)) (v := (-1)) (by decide +kernel) (by decide)) (
  e_more (s_ic_ne (off := 16) (by decide +kernel) (by decide)) (
  e_no_more))))))))))))))))))))))))))))))))))))))))
def tb_X4_tellLineUp_1 : eTb := [(72, t_ldO 0 1 72), (73, t_getR e_rf 4 7 73), (76, t_push (.inl 45) 2 76), (78, t_call 2 1 70 w_J4_append_cf468 78), (81, t_pop 81), (82, t_goto 94), (85, t_ldO 0 1 85), (86, t_getR e_rf 4 7 86), (89, t_ldI 3 1 89), (90, t_call 2 1 70 w_J4_append_bf812 90), (93, t_pop 93), (94, t_iinc 2 1 94), (97, t_goto 16), (100, t_ret)]
theorem st_X4_tellLineUp_1 : ∀ x ∈ tb_X4_tellLineUp_1, e_Sd e_rf RX4 i_X4_tellLineUp x.1 x.2 :=
  e_more (s_aload_n (k := 0) (by decide +kernel) rfl) (
  e_more (s_getR (c := 4) (j := 7) (idx := 45) (by decide +kernel) (by decide) (by decide) rfl wd_292) (
  e_more (s_bipush (n := 45) (v := 45) (by decide +kernel) (by decide)) (
  e_more (s_callV (c := 6) (idx := 402) k_J4_append_cf468 (by decide +kernel) cl_J4_append_cf468 (by decide) rfl wd_910 wd_911 wd_912 (by decide) (e_sf_rec rfl)) (
  e_more (s_pop (by decide +kernel)) (
  e_more (s_goto (off := 12) (by decide +kernel) (by decide)) (
  e_more (s_aload_n (k := 0) (by decide +kernel) rfl) (
  e_more (s_getR (c := 4) (j := 7) (idx := 45) (by decide +kernel) (by decide) (by decide) rfl wd_292) (
  e_more (s_iload_n (k := 3) (by decide +kernel) rfl) (
  e_more (s_callV (c := 6) (idx := 413) k_J4_append_bf812 (by decide +kernel) cl_J4_append_bf812 (by decide) rfl wd_935 wd_465 wd_466 (by decide) (e_sf_rec rfl)) (
  e_more (s_pop (by decide +kernel)) (
  e_more (s_iinc (z := 1) (n := 1) (by decide +kernel) (by decide) (by decide)) (
  e_more (s_goto (off := (-81)) (by decide +kernel) (by decide)) (
  e_more (s_ret (by decide +kernel) rfl) (
  e_no_more))))))))))))))
def tb_X4_tellLineUp : eTb := tb_X4_tellLineUp_0 ++ tb_X4_tellLineUp_1
theorem st_X4_tellLineUp : ∀ x ∈ tb_X4_tellLineUp, e_Sd e_rf RX4 i_X4_tellLineUp x.1 x.2 := e_app (st_X4_tellLineUp_0) st_X4_tellLineUp_1
def w_X4_tellLineUp : eW := e_sf 0 (e_rn tb_X4_tellLineUp (iL i_X4_tellLineUp) 16 1120)
theorem k_X4_tellLineUp : e_OK e_rf i_X4_tellLineUp 16 1120 w_X4_tellLineUp := k_sf (k_rn (own := RX4) ⟨by decide +kernel, rfl⟩ st_X4_tellLineUp)
abbrev i_X4_told : eI := (yX4_told, cX4_told, 3, (some .int), 23)
theorem cl_X4_told : e_Cl i_X4_told 2 := ⟨wd_1244, wd_73, ⟨by decide, by decide⟩, by decide +kernel, by decide⟩
def tb_X4_told : eTb := [(0, t_ldI 1 1 0), (1, t_call0 1 w_X4_isMarch 1), (4, t_ifn (fun a => a = 0) 17 4), (7, t_throw "java/lang/IndexOutOfBoundsException"), (17, t_ldI 2 1 17), (18, t_if (fun a => 0 ≤ a) 31 18), (21, t_throw "java/lang/IllegalArgumentException"), (31, t_ldO 0 1 31), (32, t_ldI 1 1 32), (33, t_call 2 16 1120 w_X4_tellLineUp 33), (36, t_ldI 2 1 36), (37, t_ldO 0 1 37), (38, t_getR e_rf 4 7 38), (41, t_call0 1 w_J4_length_8abf5 41), (44, t_ic (fun a b => b ≤ a) 58 44), (47, t_ldO 0 1 47), (48, t_getR e_rf 4 7 48), (51, t_ldI 2 1 51), (52, t_call0 2 w_J4_charAt_5068e 52), (55, t_goto 59), (58, t_push (.inl (-1)) 1 58), (59, t_jret)]
theorem st_X4_told : ∀ x ∈ tb_X4_told, e_Sd e_rf RX4 i_X4_told x.1 x.2 :=
  e_more (s_iload_n (k := 1) (by decide +kernel) rfl) (
  e_more (e_call0 (s_callS (idx := 194) k_X4_isMarch (by decide +kernel) cl_X4_isMarch wd_1172 wd_1173 (by decide))) (
  e_more (s_if_ne (off := 13) (by decide +kernel) (by decide)) (
  e_more (s_throw (text := "no such march") (ik := 90) (is := 197) (ic := 94) ⟨rfl, by decide⟩ ⟨by decide +kernel, wd_1020, wd_89, by decide +kernel, xat_94, by decide +kernel, by decide +kernel, (Or.inl ⟨by decide +kernel, by decide +kernel, by decide +kernel⟩)⟩) (
  e_more (s_iload_n (k := 2) (by decide +kernel) rfl) (
  e_more (s_if_ge (off := 13) (by decide +kernel) (by decide)) (
  e_more (s_throw (text := "an index is 0 or more") (ik := 49) (is := 235) (ic := 53) ⟨rfl, by decide⟩ ⟨by decide +kernel, wd_956, wd_86, by decide +kernel, xat_53, by decide +kernel, by decide +kernel, (Or.inl ⟨by decide +kernel, by decide +kernel, by decide +kernel⟩)⟩) (
  e_more (s_aload_n (k := 0) (by decide +kernel) rfl) (
  e_more (s_iload_n (k := 1) (by decide +kernel) rfl) (
  e_more (s_callV (c := 4) (idx := 237) k_X4_tellLineUp (by decide +kernel) cl_X4_tellLineUp (by decide) rfl wd_905 wd_907 wd_13 (by decide) (e_sf_rec rfl)) (
  e_more (s_iload_n (k := 2) (by decide +kernel) rfl) (
  e_more (s_aload_n (k := 0) (by decide +kernel) rfl) (
  e_more (s_getR (c := 4) (j := 7) (idx := 45) (by decide +kernel) (by decide) (by decide) rfl wd_292) (
  e_more (e_call0 (s_callV (c := 6) (idx := 240) k_J4_length_8abf5 (by decide +kernel) cl_J4_length_8abf5 (by decide) rfl wd_936 wd_319 wd_320 (by decide) (e_sf_rec rfl))) (
  e_more (s_ic_ge (off := 14) (by decide +kernel) (by decide)) (
  e_more (s_aload_n (k := 0) (by decide +kernel) rfl) (
  e_more (s_getR (c := 4) (j := 7) (idx := 45) (by decide +kernel) (by decide) (by decide) rfl wd_292) (
  e_more (s_iload_n (k := 2) (by decide +kernel) rfl) (
  e_more (e_call0 (s_callV (c := 6) (idx := 241) k_J4_charAt_5068e (by decide +kernel) cl_J4_charAt_5068e (by decide) rfl wd_937 wd_679 wd_680 (by decide) (e_sf_rec rfl))) (
  e_more (s_goto (off := 4) (by decide +kernel) (by decide)) (
  e_more (s_iconst (n := (-1)) (v := (-1)) (by decide +kernel) (by decide)) (
  e_more (s_jret (by decide +kernel) rfl) (
  e_no_more))))))))))))))))))))))
def x_X4_told : eWX := e_sfx 0 (e_rnx tb_X4_told (iL i_X4_told) 17 1126)
theorem kx_X4_told : e_OX e_rf i_X4_told 17 1126 x_X4_told := kx_sf (kx_rn (own := RX4) ⟨by decide +kernel, rfl⟩ st_X4_told)
abbrev i_X4_mixMarch : eI := (yX4_mixMarch, cX4_mixMarch, 7, (some .long), 23)
theorem cl_X4_mixMarch : e_Cl i_X4_mixMarch 2 := ⟨wd_881, wd_73, ⟨by decide, by decide⟩, by decide +kernel, by decide⟩
def tb_X4_mixMarch_0 : eTb := [(0, t_ldL 1 1 0), (1, t_ldO 0 1 1), (2, t_ldI 3 1 2), (3, t_call0 2 w_X4_fillLineUp 3), (6, t_i1 (fun a => .inr (.inl a.toInt64)) 6), (7, t_call0 2 w_X4_mix 7), (10, t_stL 4 2 10), (12, t_ldL 4 2 12), (14, t_ldO 0 1 14), (15, t_ldI 3 1 15), (16, t_call0 2 w_X4_mostParts 16), (19, t_i1 (fun a => .inr (.inl a.toInt64)) 19), (20, t_call0 2 w_X4_mix 20), (23, t_stL 4 2 23), (25, t_ldL 4 2 25), (27, t_ldO 0 1 27), (28, t_ldI 3 1 28), (29, t_push (.inl 2) 1 29), (30, t_call0 3 w_X4_helper 30), (33, t_i1 (fun a => .inr (.inl a.toInt64)) 33), (34, t_call0 2 w_X4_mix 34), (37, t_stL 4 2 37), (39, t_ldO 0 1 39), (40, t_ldI 3 1 40), (41, t_call 2 16 1120 w_X4_tellLineUp 41), (44, t_push (.inl 0) 1 44), (45, t_stI 6 2 45), (47, t_ldI 6 2 47), (49, t_ldO 0 1 49), (50, t_getR e_rf 4 7 50), (53, t_call0 1 w_J4_length_8abf5 53), (56, t_ic (fun a b => b ≤ a) 82 56), (59, t_ldL 4 2 59), (61, t_ldO 0 1 61), (62, t_getR e_rf 4 7 62), (65, t_ldI 6 2 65), (67, t_call0 2 w_J4_charAt_5068e 67), (70, t_i1 (fun a => .inr (.inl a.toInt64)) 70), (71, t_call0 2 w_X4_mix 71), (74, t_stL 4 2 74)]
theorem st_X4_mixMarch_0 : ∀ x ∈ tb_X4_mixMarch_0, e_Sd e_rf RX4 i_X4_mixMarch x.1 x.2 :=
  e_more (s_lload_n (k := 1) (by decide +kernel) rfl) (
  e_more (s_aload_n (k := 0) (by decide +kernel) rfl) (
  e_more (s_iload_n (k := 3) (by decide +kernel) rfl) (
  e_more (e_call0 (s_callV (c := 4) (idx := 279) k_X4_fillLineUp (by decide +kernel) cl_X4_fillLineUp (by decide) rfl wd_760 wd_762 wd_3 (by decide) (e_sf_rec rfl))) (
  e_more (s_i2l (by decide +kernel)) (
  e_more (e_call0 (s_callS (idx := 302) k_X4_mix (by decide +kernel) cl_X4_mix wd_832 wd_833 (by decide))) (
  e_more (s_lstore (by decide +kernel) (by decide)) (
  e_more (s_lload (by decide +kernel)) (
  e_more (s_aload_n (k := 0) (by decide +kernel) rfl) (
  e_more (s_iload_n (k := 3) (by decide +kernel) rfl) (
  e_more (e_call0 (s_callV (c := 4) (idx := 282) k_X4_mostParts (by decide +kernel) cl_X4_mostParts (by decide) rfl wd_882 wd_884 wd_11 (by decide) (e_sf_rec rfl))) (
  e_more (s_i2l (by decide +kernel)) (
  e_more (e_call0 (s_callS (idx := 302) k_X4_mix (by decide +kernel) cl_X4_mix wd_832 wd_833 (by decide))) (
  e_more (s_lstore (by decide +kernel) (by decide)) (
  e_more (s_lload (by decide +kernel)) (
  e_more (s_aload_n (k := 0) (by decide +kernel) rfl) (
  e_more (s_iload_n (k := 3) (by decide +kernel) rfl) (
  e_more (s_iconst (n := 2) (v := 2) (by decide +kernel) (by decide)) (
  e_more (e_call0 (s_callV (c := 4) (idx := 290) k_X4_helper (by decide +kernel) cl_X4_helper (by decide) rfl wd_896 wd_898 wd_12 (by decide) (e_sf_rec rfl))) (
  e_more (s_i2l (by decide +kernel)) (
  e_more (e_call0 (s_callS (idx := 302) k_X4_mix (by decide +kernel) cl_X4_mix wd_832 wd_833 (by decide))) (
  e_more (s_lstore (by decide +kernel) (by decide)) (
  e_more (s_aload_n (k := 0) (by decide +kernel) rfl) (
  e_more (s_iload_n (k := 3) (by decide +kernel) rfl) (
  e_more (s_callV (c := 4) (idx := 237) k_X4_tellLineUp (by decide +kernel) cl_X4_tellLineUp (by decide) rfl wd_905 wd_907 wd_13 (by decide) (e_sf_rec rfl)) (
  e_more (s_iconst (n := 0) (v := 0) (by decide +kernel) (by decide)) (
  e_more (s_istore (by decide +kernel) (by decide)) (
  e_more (s_iload (by decide +kernel)) (
  e_more (s_aload_n (k := 0) (by decide +kernel) rfl) (
  e_more (s_getR (c := 4) (j := 7) (idx := 45) (by decide +kernel) (by decide) (by decide) rfl wd_292) (
  e_more (e_call0 (s_callV (c := 6) (idx := 240) k_J4_length_8abf5 (by decide +kernel) cl_J4_length_8abf5 (by decide) rfl wd_936 wd_319 wd_320 (by decide) (e_sf_rec rfl))) (
  e_more (s_ic_ge (off := 26) (by decide +kernel) (by decide)) (
  e_more (s_lload (by decide +kernel)) (
  e_more (s_aload_n (k := 0) (by decide +kernel) rfl) (
  e_more (s_getR (c := 4) (j := 7) (idx := 45) (by decide +kernel) (by decide) (by decide) rfl wd_292) (
  e_more (s_iload (by decide +kernel)) (
  e_more (e_call0 (s_callV (c := 6) (idx := 241) k_J4_charAt_5068e (by decide +kernel) cl_J4_charAt_5068e (by decide) rfl wd_937 wd_679 wd_680 (by decide) (e_sf_rec rfl))) (
  e_more (s_i2l (by decide +kernel)) (
  e_more (e_call0 (s_callS (idx := 302) k_X4_mix (by decide +kernel) cl_X4_mix wd_832 wd_833 (by decide))) (
  e_more (s_lstore (by decide +kernel) (by decide)) (
  e_no_more))))))))))))))))))))))))))))))))))))))))
def tb_X4_mixMarch_1 : eTb := [(76, t_iinc 6 1 76), (79, t_goto 47), (82, t_ldL 4 2 82), (84, t_lret)]
theorem st_X4_mixMarch_1 : ∀ x ∈ tb_X4_mixMarch_1, e_Sd e_rf RX4 i_X4_mixMarch x.1 x.2 :=
  e_more (s_iinc (z := 1) (n := 1) (by decide +kernel) (by decide) (by decide)) (
  e_more (s_goto (off := (-32)) (by decide +kernel) (by decide)) (
  e_more (s_lload (by decide +kernel)) (
  e_more (s_lret (by decide +kernel) rfl) (
  e_no_more))))
def tb_X4_mixMarch : eTb := tb_X4_mixMarch_0 ++ tb_X4_mixMarch_1
theorem st_X4_mixMarch : ∀ x ∈ tb_X4_mixMarch, e_Sd e_rf RX4 i_X4_mixMarch x.1 x.2 := e_app (st_X4_mixMarch_0) st_X4_mixMarch_1
def w_X4_mixMarch : eW := e_sf 0 (e_rn tb_X4_mixMarch (iL i_X4_mixMarch) 16 1120)
theorem k_X4_mixMarch : e_OK e_rf i_X4_mixMarch 16 1120 w_X4_mixMarch := k_sf (k_rn (own := RX4) ⟨by decide +kernel, rfl⟩ st_X4_mixMarch)
abbrev i_X4_digest : eI := (yX4_digest, cX4_digest, 4, (some .long), 24)
theorem cl_X4_digest : e_Cl i_X4_digest 0 := ⟨wd_812, wd_73, ⟨by decide, by decide⟩, by decide +kernel, by decide⟩
def tb_X4_digest_0 : eTb := [(0, t_push (.inr (.inl 3733)) 3 0), (3, t_stL 1 1 3), (4, t_push (.inl 0) 1 4), (5, t_stI 3 1 5), (6, t_ldI 3 1 6), (7, t_push (.inl 19) 2 7), (9, t_ic (fun a b => b ≤ a) 29 9), (12, t_ldL 1 1 12), (13, t_ldO 0 1 13), (14, t_ldI 3 1 14), (15, t_call0 2 w_X4_countNumber 15), (18, t_i1 (fun a => .inr (.inl a.toInt64)) 18), (19, t_call0 2 w_X4_mix 19), (22, t_stL 1 1 22), (23, t_iinc 3 1 23), (26, t_goto 6), (29, t_ldO 0 1 29), (30, t_ldL 1 1 30), (31, t_call0 2 w_X4_mixPupils 31), (34, t_stL 1 1 34), (35, t_ldO 0 1 35), (36, t_ldL 1 1 36), (37, t_call0 2 w_X4_mixInstruments 37), (40, t_stL 1 1 40), (41, t_push (.inl 0) 1 41), (42, t_stI 3 1 42), (43, t_ldI 3 1 43), (44, t_ldO 0 1 44), (45, t_getR e_rf 4 0 45), (48, t_getI 0 5 48), (51, t_ic (fun a b => b ≤ a) 74 51), (54, t_ldL 1 1 54), (55, t_ldO 0 1 55), (56, t_getR e_rf 4 0 56), (59, t_ldI 3 1 59), (60, t_call0 2 w_X0_loanAt 60), (63, t_i1 (fun a => .inr (.inl a.toInt64)) 63), (64, t_call0 2 w_X4_mix 64), (67, t_stL 1 1 67), (68, t_iinc 3 1 68)]
theorem st_X4_digest_0 : ∀ x ∈ tb_X4_digest_0, e_Sd e_rf RX4 i_X4_digest x.1 x.2 :=
  e_more (s_ldc2 (i := 300) (v := 3733) (by decide +kernel) wd_813) (
  e_more (s_lstore_n (k := 1) (by decide +kernel) rfl (by decide)) (
  e_more (s_iconst (n := 0) (v := 0) (by decide +kernel) (by decide)) (
  e_more (s_istore_n (k := 3) (by decide +kernel) rfl (by decide)) (
  e_more (s_iload_n (k := 3) (by decide +kernel) rfl) (
  e_more (s_bipush (n := 19) (v := 19) (by decide +kernel) (by decide)) (
  e_more (s_ic_ge (off := 20) (by decide +kernel) (by decide)) (
  e_more (s_lload_n (k := 1) (by decide +kernel) rfl) (
  e_more (s_aload_n (k := 0) (by decide +kernel) rfl) (
  e_more (s_iload_n (k := 3) (by decide +kernel) rfl) (
  e_more (e_call0 (s_callV (c := 4) (idx := 276) k_X4_countNumber (by decide +kernel) cl_X4_countNumber (by decide) rfl wd_814 wd_816 wd_7 (by decide) (e_sf_rec rfl))) (
  e_more (s_i2l (by decide +kernel)) (
  e_more (e_call0 (s_callS (idx := 302) k_X4_mix (by decide +kernel) cl_X4_mix wd_832 wd_833 (by decide))) (
  e_more (s_lstore_n (k := 1) (by decide +kernel) rfl (by decide)) (
  e_more (s_iinc (z := 1) (n := 1) (by decide +kernel) (by decide) (by decide)) (
  e_more (s_goto (off := (-20)) (by decide +kernel) (by decide)) (
  e_more (s_aload_n (k := 0) (by decide +kernel) rfl) (
  e_more (s_lload_n (k := 1) (by decide +kernel) rfl) (
  e_more (e_call0 (s_callV (c := 4) (idx := 306) k_X4_mixPupils (by decide +kernel) cl_X4_mixPupils (by decide) rfl wd_836 wd_838 wd_8 (by decide) (e_sf_rec rfl))) (
  e_more (s_lstore_n (k := 1) (by decide +kernel) rfl (by decide)) (
  e_more (s_aload_n (k := 0) (by decide +kernel) rfl) (
  e_more (s_lload_n (k := 1) (by decide +kernel) rfl) (
  e_more (e_call0 (s_callV (c := 4) (idx := 310) k_X4_mixInstruments (by decide +kernel) cl_X4_mixInstruments (by decide) rfl wd_857 wd_859 wd_9 (by decide) (e_sf_rec rfl))) (
  e_more (s_lstore_n (k := 1) (by decide +kernel) rfl (by decide)) (
  e_more (s_iconst (n := 0) (v := 0) (by decide +kernel) (by decide)) (
  e_more (s_istore_n (k := 3) (by decide +kernel) rfl (by decide)) (
  e_more (s_iload_n (k := 3) (by decide +kernel) rfl) (
  e_more (s_aload_n (k := 0) (by decide +kernel) rfl) (
  e_more (s_getR (c := 4) (j := 0) (idx := 10) (by decide +kernel) (by decide) (by decide) rfl wd_285) (
  e_more (s_getI (c := 0) (j := 5) (idx := 105) (by decide +kernel) (by decide) (by decide) rfl wd_189) (
  e_more (s_ic_ge (off := 23) (by decide +kernel) (by decide)) (
  e_more (s_lload_n (k := 1) (by decide +kernel) rfl) (
  e_more (s_aload_n (k := 0) (by decide +kernel) rfl) (
  e_more (s_getR (c := 4) (j := 0) (idx := 10) (by decide +kernel) (by decide) (by decide) rfl wd_285) (
  e_more (s_iload_n (k := 3) (by decide +kernel) rfl) (
  e_more (e_call0 (s_callV (c := 0) (idx := 263) k_X0_loanAt (by decide +kernel) cl_X0_loanAt (by decide) rfl wd_874 wd_875 wd_876 (by decide) (e_sf_rec rfl))) (
  e_more (s_i2l (by decide +kernel)) (
  e_more (e_call0 (s_callS (idx := 302) k_X4_mix (by decide +kernel) cl_X4_mix wd_832 wd_833 (by decide))) (
  e_more (s_lstore_n (k := 1) (by decide +kernel) rfl (by decide)) (
  e_more (s_iinc (z := 1) (n := 1) (by decide +kernel) (by decide) (by decide)) (
  e_no_more))))))))))))))))))))))))))))))))))))))))
def tb_X4_digest_1 : eTb := [(71, t_goto 43), (74, t_push (.inl 0) 1 74), (75, t_stI 3 1 75), (76, t_ldI 3 1 76), (77, t_push (.inl 4) 1 77), (78, t_ic (fun a b => b ≤ a) 94 78), (81, t_ldO 0 1 81), (82, t_ldL 1 1 82), (83, t_ldI 3 1 83), (84, t_call 3 16 1120 w_X4_mixMarch 84), (87, t_stL 1 1 87), (88, t_iinc 3 1 88), (91, t_goto 76), (94, t_ldL 1 1 94), (95, t_ldO 0 1 95), (96, t_call0 1 w_X4_bestMarch 96), (99, t_i1 (fun a => .inr (.inl a.toInt64)) 99), (100, t_call0 2 w_X4_mix 100), (103, t_stL 1 1 103), (104, t_ldL 1 1 104), (105, t_ldO 0 1 105), (106, t_call0 1 w_X4_played 106), (109, t_call0 1 w_X4_bitsOfShare 109), (112, t_call0 2 w_X4_mix 112), (115, t_stL 1 1 115), (116, t_ldL 1 1 116), (117, t_ldO 0 1 117), (118, t_getR e_rf 4 5 118), (121, t_call0 1 w_X3_length 121), (124, t_i1 (fun a => .inr (.inl a.toInt64)) 124), (125, t_call0 2 w_X4_mix 125), (128, t_stL 1 1 128), (129, t_push (.inl 0) 1 129), (130, t_stI 3 1 130), (131, t_ldI 3 1 131), (132, t_ldO 0 1 132), (133, t_getR e_rf 4 5 133), (136, t_call0 1 w_X3_length 136), (139, t_ic (fun a b => b ≤ a) 162 139), (142, t_ldL 1 1 142)]
theorem st_X4_digest_1 : ∀ x ∈ tb_X4_digest_1, e_Sd e_rf RX4 i_X4_digest x.1 x.2 :=
  e_more (s_goto (off := (-28)) (by decide +kernel) (by decide)) (
  e_more (s_iconst (n := 0) (v := 0) (by decide +kernel) (by decide)) (
  e_more (s_istore_n (k := 3) (by decide +kernel) rfl (by decide)) (
  e_more (s_iload_n (k := 3) (by decide +kernel) rfl) (
  e_more (s_iconst (n := 4) (v := 4) (by decide +kernel) (by decide)) (
  e_more (s_ic_ge (off := 16) (by decide +kernel) (by decide)) (
  e_more (s_aload_n (k := 0) (by decide +kernel) rfl) (
  e_more (s_lload_n (k := 1) (by decide +kernel) rfl) (
  e_more (s_iload_n (k := 3) (by decide +kernel) rfl) (
  e_more (s_callV (c := 4) (idx := 313) k_X4_mixMarch (by decide +kernel) cl_X4_mixMarch (by decide) rfl wd_878 wd_880 wd_10 (by decide) (e_sf_rec rfl)) (
  e_more (s_lstore_n (k := 1) (by decide +kernel) rfl (by decide)) (
  e_more (s_iinc (z := 1) (n := 1) (by decide +kernel) (by decide) (by decide)) (
  e_more (s_goto (off := (-15)) (by decide +kernel) (by decide)) (
  e_more (s_lload_n (k := 1) (by decide +kernel) rfl) (
  e_more (s_aload_n (k := 0) (by decide +kernel) rfl) (
  e_more (e_call0 (s_callV (c := 4) (idx := 317) k_X4_bestMarch (by decide +kernel) cl_X4_bestMarch (by decide) rfl wd_938 wd_757 wd_758 (by decide) (e_sf_rec rfl))) (
  e_more (s_i2l (by decide +kernel)) (
  e_more (e_call0 (s_callS (idx := 302) k_X4_mix (by decide +kernel) cl_X4_mix wd_832 wd_833 (by decide))) (
  e_more (s_lstore_n (k := 1) (by decide +kernel) rfl (by decide)) (
  e_more (s_lload_n (k := 1) (by decide +kernel) rfl) (
  e_more (s_aload_n (k := 0) (by decide +kernel) rfl) (
  e_more (e_call0 (s_callV (c := 4) (idx := 320) k_X4_played (by decide +kernel) cl_X4_played (by decide) rfl wd_939 wd_806 wd_807 (by decide) (e_sf_rec rfl))) (
  e_more (e_call0 (s_callS (idx := 324) k_X4_bitsOfShare (by decide +kernel) cl_X4_bitsOfShare wd_940 wd_941 (by decide))) (
  e_more (e_call0 (s_callS (idx := 302) k_X4_mix (by decide +kernel) cl_X4_mix wd_832 wd_833 (by decide))) (
  e_more (s_lstore_n (k := 1) (by decide +kernel) rfl (by decide)) (
  e_more (s_lload_n (k := 1) (by decide +kernel) rfl) (
  e_more (s_aload_n (k := 0) (by decide +kernel) rfl) (
  e_more (s_getR (c := 4) (j := 5) (idx := 34) (by decide +kernel) (by decide) (by decide) rfl wd_290) (
  e_more (e_call0 (s_callV (c := 3) (idx := 209) k_X3_length (by decide +kernel) cl_X3_length (by decide) rfl wd_314 wd_315 wd_316 (by decide) (e_sf_rec rfl))) (
  e_more (s_i2l (by decide +kernel)) (
  e_more (e_call0 (s_callS (idx := 302) k_X4_mix (by decide +kernel) cl_X4_mix wd_832 wd_833 (by decide))) (
  e_more (s_lstore_n (k := 1) (by decide +kernel) rfl (by decide)) (
  e_more (s_iconst (n := 0) (v := 0) (by decide +kernel) (by decide)) (
  e_more (s_istore_n (k := 3) (by decide +kernel) rfl (by decide)) (
  e_more (s_iload_n (k := 3) (by decide +kernel) rfl) (
  e_more (s_aload_n (k := 0) (by decide +kernel) rfl) (
  e_more (s_getR (c := 4) (j := 5) (idx := 34) (by decide +kernel) (by decide) (by decide) rfl wd_290) (
  e_more (e_call0 (s_callV (c := 3) (idx := 209) k_X3_length (by decide +kernel) cl_X3_length (by decide) rfl wd_314 wd_315 wd_316 (by decide) (e_sf_rec rfl))) (
  e_more (s_ic_ge (off := 23) (by decide +kernel) (by decide)) (
  e_more (s_lload_n (k := 1) (by decide +kernel) rfl) (
  e_no_more))))))))))))))))))))))))))))))))))))))))
def tb_X4_digest_2 : eTb := [(143, t_ldO 0 1 143), (144, t_getR e_rf 4 5 144), (147, t_ldI 3 1 147), (148, t_call0 2 w_X3_signAt 148), (151, t_i1 (fun a => .inr (.inl a.toInt64)) 151), (152, t_call0 2 w_X4_mix 152), (155, t_stL 1 1 155), (156, t_iinc 3 1 156), (159, t_goto 131), (162, t_ldL 1 1 162), (163, t_lret)]
theorem st_X4_digest_2 : ∀ x ∈ tb_X4_digest_2, e_Sd e_rf RX4 i_X4_digest x.1 x.2 :=
  e_more (s_aload_n (k := 0) (by decide +kernel) rfl) (
  e_more (s_getR (c := 4) (j := 5) (idx := 34) (by decide +kernel) (by decide) (by decide) rfl wd_290) (
  e_more (s_iload_n (k := 3) (by decide +kernel) rfl) (
  e_more (e_call0 (s_callV (c := 3) (idx := 328) k_X3_signAt (by decide +kernel) cl_X3_signAt (by decide) rfl wd_946 wd_675 wd_676 (by decide) (e_sf_rec rfl))) (
  e_more (s_i2l (by decide +kernel)) (
  e_more (e_call0 (s_callS (idx := 302) k_X4_mix (by decide +kernel) cl_X4_mix wd_832 wd_833 (by decide))) (
  e_more (s_lstore_n (k := 1) (by decide +kernel) rfl (by decide)) (
  e_more (s_iinc (z := 1) (n := 1) (by decide +kernel) (by decide) (by decide)) (
  e_more (s_goto (off := (-28)) (by decide +kernel) (by decide)) (
  e_more (s_lload_n (k := 1) (by decide +kernel) rfl) (
  e_more (s_lret (by decide +kernel) rfl) (
  e_no_more)))))))))))
def tb_X4_digest : eTb := tb_X4_digest_0 ++ tb_X4_digest_1 ++ tb_X4_digest_2
theorem st_X4_digest : ∀ x ∈ tb_X4_digest, e_Sd e_rf RX4 i_X4_digest x.1 x.2 := e_app (e_app (st_X4_digest_0) st_X4_digest_1) st_X4_digest_2
def w_X4_digest : eW := e_sf 0 (e_rn tb_X4_digest (iL i_X4_digest) 64 4480)
theorem k_X4_digest : e_OK e_rf i_X4_digest 64 4480 w_X4_digest := k_sf (k_rn (own := RX4) ⟨by decide +kernel, rfl⟩ st_X4_digest)
