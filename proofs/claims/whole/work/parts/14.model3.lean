/-! the reference, piece 3: tables and readings, by program. Own work. -/
abbrev i_X5_march : eI := (yX5_march, cX5_march, 2, (some .int), 7)
theorem cl_X5_march : e_Cl i_X5_march 1 := ⟨wd_1552, wd_82, ⟨by decide, by decide⟩, by decide +kernel, by decide⟩
def tb_X5_march : eTb := [(0, t_ldO 0 1 0), (1, t_ldO 0 1 1), (2, t_ldI 1 1 2), (3, t_call0 2 w_X5_marchError 3), (6, t_call0 2 w_X5_holds 6), (9, t_ifn (fun a => a = 0) 14 9), (12, t_push (.inl 0) 1 12), (13, t_jret), (14, t_ldO 0 1 14), (15, t_call0 1 w_X5_save 15), (18, t_ldO 0 1 18), (19, t_ldI 1 1 19), (20, t_call0 2 w_X5_doMarch 20), (23, t_jret)]
theorem st_X5_march : ∀ x ∈ tb_X5_march, e_Sd e_rf RX5 i_X5_march x.1 x.2 :=
  e_more (s_aload_n (k := 0) (by decide +kernel) rfl) (
  e_more (s_aload_n (k := 0) (by decide +kernel) rfl) (
  e_more (s_iload_n (k := 1) (by decide +kernel) rfl) (
  e_more (e_call0 (s_callV (c := 5) (idx := 151) k_X5_marchError (by decide +kernel) cl_X5_marchError (by decide) rfl wd_1553 wd_1555 wd_43 (by decide) (e_sf_rec rfl))) (
  e_more (e_call0 (s_callV (c := 5) (idx := 118) k_X5_holds (by decide +kernel) cl_X5_holds (by decide) rfl wd_1409 wd_1411 wd_20 (by decide) (e_sf_rec rfl))) (
  e_more (s_if_ne (off := 5) (by decide +kernel) (by decide)) (
  e_more (s_iconst (n := 0) (v := 0) (by decide +kernel) (by decide)) (
  e_more (s_jret (by decide +kernel) rfl) (
  e_more (s_aload_n (k := 0) (by decide +kernel) rfl) (
  e_more (e_call0 (s_callV (c := 5) (idx := 121) k_X5_save (by decide +kernel) cl_X5_save (by decide) rfl wd_1413 wd_1415 wd_21 (by decide) (e_sf_rec rfl))) (
  e_more (s_aload_n (k := 0) (by decide +kernel) rfl) (
  e_more (s_iload_n (k := 1) (by decide +kernel) rfl) (
  e_more (e_call0 (s_callV (c := 5) (idx := 154) k_X5_doMarch (by decide +kernel) cl_X5_doMarch (by decide) rfl wd_1564 wd_1566 wd_45 (by decide) (e_sf_rec rfl))) (
  e_more (s_jret (by decide +kernel) rfl) (
  e_no_more))))))))))))))
def w_X5_march : eW := e_sf 13 (e_rn tb_X5_march (iL i_X5_march) 0 0)
theorem k_X5_march : e_OK e_rf i_X5_march 0 0 w_X5_march := k_sf (k_rn (own := RX5) ⟨by decide +kernel, rfl⟩ st_X5_march)
abbrev i_X5_append : eI := (yX5_append, cX5_append, 2, (some .int), 1)
theorem cl_X5_append : e_Cl i_X5_append 1 := ⟨wd_1592, wd_82, ⟨by decide, by decide⟩, by decide +kernel, by decide⟩
def tb_X5_append : eTb := [(0, t_ldO 0 1 0), (1, t_ldI 1 1 1), (2, t_push (.inl 33) 2 2), (4, t_push (.inl 126) 2 4), (6, t_call0 3 w_X5_in 6), (9, t_ifn (fun a => a = 0) 16 9), (12, t_push (.inl 1) 1 12), (13, t_goto 30), (16, t_ldO 0 1 16), (17, t_getI 5 7 17), (20, t_push (.inl 60) 2 20), (22, t_icn (fun a b => a = b) 29 22), (25, t_push (.inl 2) 1 25), (26, t_goto 30), (29, t_push (.inl 0) 1 29), (30, t_call0 2 w_X5_holds 30), (33, t_ifn (fun a => a = 0) 38 33), (36, t_push (.inl 0) 1 36), (37, t_jret), (38, t_ldO 0 1 38), (39, t_getR e_rf 5 6 39), (42, t_ldO 0 1 42), (43, t_getI 5 7 43), (46, t_ldI 1 1 46), (47, t_iast 47), (48, t_ldO 0 1 48), (49, t_dup 49), (50, t_getI 5 7 50), (53, t_push (.inl 1) 1 53), (54, t_ii (fun a b => a + b) 54), (55, t_putI 5 7 55), (58, t_ldO 0 1 58), (59, t_getI 5 7 59), (62, t_jret)]
theorem st_X5_append : ∀ x ∈ tb_X5_append, e_Sd e_rf RX5 i_X5_append x.1 x.2 :=
  e_more (s_aload_n (k := 0) (by decide +kernel) rfl) (
  e_more (s_iload_n (k := 1) (by decide +kernel) rfl) (
  e_more (s_bipush (n := 33) (v := 33) (by decide +kernel) (by decide)) (
  e_more (s_bipush (n := 126) (v := 126) (by decide +kernel) (by decide)) (
  e_more (e_call0 (s_callS (idx := 32) k_X5_in (by decide +kernel) cl_X5_in wd_1406 wd_1407 (by decide))) (
  e_more (s_if_ne (off := 7) (by decide +kernel) (by decide)) (
  e_more (s_iconst (n := 1) (v := 1) (by decide +kernel) (by decide)) (
  e_more (s_goto (off := 17) (by decide +kernel) (by decide)) (
  e_more (s_aload_n (k := 0) (by decide +kernel) rfl) (
  e_more (s_getI (c := 5) (j := 7) (idx := 157) (by decide +kernel) (by decide) (by decide) rfl wd_1356) (
  e_more (s_bipush (n := 60) (v := 60) (by decide +kernel) (by decide)) (
  e_more (s_ic_ne (off := 7) (by decide +kernel) (by decide)) (
  e_more (s_iconst (n := 2) (v := 2) (by decide +kernel) (by decide)) (
  e_more (s_goto (off := 4) (by decide +kernel) (by decide)) (
  e_more (s_iconst (n := 0) (v := 0) (by decide +kernel) (by decide)) (
  e_more (e_call0 (s_callV (c := 5) (idx := 118) k_X5_holds (by decide +kernel) cl_X5_holds (by decide) rfl wd_1409 wd_1411 wd_20 (by decide) (e_sf_rec rfl))) (
  e_more (s_if_ne (off := 5) (by decide +kernel) (by decide)) (
  e_more (s_iconst (n := 0) (v := 0) (by decide +kernel) (by decide)) (
  e_more (s_jret (by decide +kernel) rfl) (
  e_more (s_aload_n (k := 0) (by decide +kernel) rfl) (
  e_more (s_getR (c := 5) (j := 6) (idx := 22) (by decide +kernel) (by decide) (by decide) rfl wd_1355) (
  e_more (s_aload_n (k := 0) (by decide +kernel) rfl) (
  e_more (s_getI (c := 5) (j := 7) (idx := 157) (by decide +kernel) (by decide) (by decide) rfl wd_1356) (
  e_more (s_iload_n (k := 1) (by decide +kernel) rfl) (
  e_more (s_iast (by decide +kernel)) (
  e_more (s_aload_n (k := 0) (by decide +kernel) rfl) (
  e_more (s_dup (by decide +kernel)) (
  e_more (s_getI (c := 5) (j := 7) (idx := 157) (by decide +kernel) (by decide) (by decide) rfl wd_1356) (
  e_more (s_iconst (n := 1) (v := 1) (by decide +kernel) (by decide)) (
  e_more (s_iadd (by decide +kernel)) (
  e_more (s_putI (c := 5) (j := 7) (idx := 157) (by decide +kernel) (by decide) (by decide) rfl rfl wd_1356) (
  e_more (s_aload_n (k := 0) (by decide +kernel) rfl) (
  e_more (s_getI (c := 5) (j := 7) (idx := 157) (by decide +kernel) (by decide) (by decide) rfl wd_1356) (
  e_more (s_jret (by decide +kernel) rfl) (
  e_no_more))))))))))))))))))))))))))))))))))
def w_X5_append : eW := e_sf 13 (e_rn tb_X5_append (iL i_X5_append) 0 0)
theorem k_X5_append : e_OK e_rf i_X5_append 0 0 w_X5_append := k_sf (k_rn (own := RX5) ⟨by decide +kernel, rfl⟩ st_X5_append)
abbrev i_X5_clearBuffer : eI := (yX5_clearBuffer, cX5_clearBuffer, 2, (some .int), 0)
theorem cl_X5_clearBuffer : e_Cl i_X5_clearBuffer 0 := ⟨wd_1596, wd_82, ⟨by decide, by decide⟩, by decide +kernel, by decide⟩
def tb_X5_clearBuffer : eTb := [(0, t_ldO 0 1 0), (1, t_push (.inl 0) 1 1), (2, t_putI 5 8 2), (5, t_ldO 0 1 5), (6, t_getI 5 7 6), (9, t_stI 1 1 9), (10, t_ldO 0 1 10), (11, t_push (.inl 0) 1 11), (12, t_putI 5 7 12), (15, t_ldI 1 1 15), (16, t_jret)]
theorem st_X5_clearBuffer : ∀ x ∈ tb_X5_clearBuffer, e_Sd e_rf RX5 i_X5_clearBuffer x.1 x.2 :=
  e_more (s_aload_n (k := 0) (by decide +kernel) rfl) (
  e_more (s_iconst (n := 0) (v := 0) (by decide +kernel) (by decide)) (
  e_more (s_putI (c := 5) (j := 8) (idx := 28) (by decide +kernel) (by decide) (by decide) rfl rfl wd_1357) (
  e_more (s_aload_n (k := 0) (by decide +kernel) rfl) (
  e_more (s_getI (c := 5) (j := 7) (idx := 157) (by decide +kernel) (by decide) (by decide) rfl wd_1356) (
  e_more (s_istore_n (k := 1) (by decide +kernel) rfl (by decide)) (
  e_more (s_aload_n (k := 0) (by decide +kernel) rfl) (
  e_more (s_iconst (n := 0) (v := 0) (by decide +kernel) (by decide)) (
  e_more (s_putI (c := 5) (j := 7) (idx := 157) (by decide +kernel) (by decide) (by decide) rfl rfl wd_1356) (
  e_more (s_iload_n (k := 1) (by decide +kernel) rfl) (
  e_more (s_jret (by decide +kernel) rfl) (
  e_no_more)))))))))))
def w_X5_clearBuffer : eW := e_sf 13 (e_rn tb_X5_clearBuffer (iL i_X5_clearBuffer) 0 0)
theorem k_X5_clearBuffer : e_OK e_rf i_X5_clearBuffer 0 0 w_X5_clearBuffer := k_sf (k_rn (own := RX5) ⟨by decide +kernel, rfl⟩ st_X5_clearBuffer)
abbrev i_X5_isNext : eI := (yX5_isNext, cX5_isNext, 3, (some .boolean), 1)
theorem cl_X5_isNext : e_Cl i_X5_isNext 2 := ⟨wd_1620, wd_82, ⟨by decide, by decide⟩, by decide +kernel, by decide⟩
def tb_X5_isNext : eTb := [(0, t_ldO 0 1 0), (1, t_getI 5 10 1), (4, t_ldO 0 1 4), (5, t_getI 5 7 5), (8, t_ic (fun a b => b ≤ a) 32 8), (11, t_ldO 0 1 11), (12, t_getR e_rf 5 6 12), (15, t_ldO 0 1 15), (16, t_getI 5 10 16), (19, t_iald 19), (20, t_ldI 1 1 20), (21, t_ldI 2 1 21), (22, t_call0 3 w_X5_in 22), (25, t_if (fun a => a = 0) 32 25), (28, t_push (.inl 1) 1 28), (29, t_goto 33), (32, t_push (.inl 0) 1 32), (33, t_zret)]
theorem st_X5_isNext : ∀ x ∈ tb_X5_isNext, e_Sd e_rf RX5 i_X5_isNext x.1 x.2 :=
  e_more (s_aload_n (k := 0) (by decide +kernel) rfl) (
  e_more (s_getI (c := 5) (j := 10) (idx := 160) (by decide +kernel) (by decide) (by decide) rfl wd_1359) (
  e_more (s_aload_n (k := 0) (by decide +kernel) rfl) (
  e_more (s_getI (c := 5) (j := 7) (idx := 157) (by decide +kernel) (by decide) (by decide) rfl wd_1356) (
  e_more (s_ic_ge (off := 24) (by decide +kernel) (by decide)) (
  e_more (s_aload_n (k := 0) (by decide +kernel) rfl) (
  e_more (s_getR (c := 5) (j := 6) (idx := 22) (by decide +kernel) (by decide) (by decide) rfl wd_1355) (
  e_more (s_aload_n (k := 0) (by decide +kernel) rfl) (
  e_more (s_getI (c := 5) (j := 10) (idx := 160) (by decide +kernel) (by decide) (by decide) rfl wd_1359) (
  e_more (s_iald (by decide +kernel)) (
  e_more (s_iload_n (k := 1) (by decide +kernel) rfl) (
  e_more (s_iload_n (k := 2) (by decide +kernel) rfl) (
  e_more (e_call0 (s_callS (idx := 32) k_X5_in (by decide +kernel) cl_X5_in wd_1406 wd_1407 (by decide))) (
  e_more (s_if_eq (off := 7) (by decide +kernel) (by decide)) (
  e_more (s_iconst (n := 1) (v := 1) (by decide +kernel) (by decide)) (
  e_more (s_goto (off := 4) (by decide +kernel) (by decide)) (
  e_more (s_iconst (n := 0) (v := 0) (by decide +kernel) (by decide)) (
  e_more (s_zret (by decide +kernel) rfl) (
  e_no_more))))))))))))))))))
def w_X5_isNext : eW := e_sf 13 (e_rn tb_X5_isNext (iL i_X5_isNext) 0 0)
theorem k_X5_isNext : e_OK e_rf i_X5_isNext 0 0 w_X5_isNext := k_sf (k_rn (own := RX5) ⟨by decide +kernel, rfl⟩ st_X5_isNext)
abbrev i_X5_takes : eI := (yX5_takes, cX5_takes, 3, (some .boolean), 2)
theorem cl_X5_takes : e_Cl i_X5_takes 1 := ⟨wd_1616, wd_82, ⟨by decide, by decide⟩, by decide +kernel, by decide⟩
def tb_X5_takes : eTb := [(0, t_ldO 0 1 0), (1, t_ldI 1 1 1), (2, t_ldI 1 1 2), (3, t_call0 3 w_X5_isNext 3), (6, t_stI 2 1 6), (7, t_ldO 0 1 7), (8, t_dup 8), (9, t_getI 5 10 9), (12, t_ldI 2 1 12), (13, t_if (fun a => a = 0) 20 13), (16, t_push (.inl 1) 1 16), (17, t_goto 21), (20, t_push (.inl 0) 1 20), (21, t_ii (fun a b => a + b) 21), (22, t_putI 5 10 22), (25, t_ldI 2 1 25), (26, t_zret)]
theorem st_X5_takes : ∀ x ∈ tb_X5_takes, e_Sd e_rf RX5 i_X5_takes x.1 x.2 :=
  e_more (s_aload_n (k := 0) (by decide +kernel) rfl) (
  e_more (s_iload_n (k := 1) (by decide +kernel) rfl) (
  e_more (s_iload_n (k := 1) (by decide +kernel) rfl) (
  e_more (e_call0 (s_callV (c := 5) (idx := 163) k_X5_isNext (by decide +kernel) cl_X5_isNext (by decide) rfl wd_1617 wd_1619 wd_53 (by decide) (e_sf_rec rfl))) (
  e_more (s_istore_n (k := 2) (by decide +kernel) rfl (by decide)) (
  e_more (s_aload_n (k := 0) (by decide +kernel) rfl) (
  e_more (s_dup (by decide +kernel)) (
  e_more (s_getI (c := 5) (j := 10) (idx := 160) (by decide +kernel) (by decide) (by decide) rfl wd_1359) (
  e_more (s_iload_n (k := 2) (by decide +kernel) rfl) (
  e_more (s_if_eq (off := 7) (by decide +kernel) (by decide)) (
  e_more (s_iconst (n := 1) (v := 1) (by decide +kernel) (by decide)) (
  e_more (s_goto (off := 4) (by decide +kernel) (by decide)) (
  e_more (s_iconst (n := 0) (v := 0) (by decide +kernel) (by decide)) (
  e_more (s_iadd (by decide +kernel)) (
  e_more (s_putI (c := 5) (j := 10) (idx := 160) (by decide +kernel) (by decide) (by decide) rfl rfl wd_1359) (
  e_more (s_iload_n (k := 2) (by decide +kernel) rfl) (
  e_more (s_zret (by decide +kernel) rfl) (
  e_no_more)))))))))))))))))
def w_X5_takes : eW := e_sf 13 (e_rn tb_X5_takes (iL i_X5_takes) 0 0)
theorem k_X5_takes : e_OK e_rf i_X5_takes 0 0 w_X5_takes := k_sf (k_rn (own := RX5) ⟨by decide +kernel, rfl⟩ st_X5_takes)
abbrev i_X5_readOne : eI := (yX5_readOne, cX5_readOne, 3, (some .boolean), 2)
theorem cl_X5_readOne : e_Cl i_X5_readOne 1 := ⟨wd_1624, wd_82, ⟨by decide, by decide⟩, by decide +kernel, by decide⟩
def tb_X5_readOne : eTb := [(0, t_ldO 0 1 0), (1, t_push (.inl 48) 2 1), (3, t_push (.inl 48) 2 3), (5, t_ldI 1 1 5), (6, t_ii (fun a b => a + b) 6), (7, t_call0 3 w_X5_isNext 7), (10, t_stI 2 1 10), (11, t_ldO 0 1 11), (12, t_ldI 2 1 12), (13, t_if (fun a => a = 0) 31 13), (16, t_ldO 0 1 16), (17, t_getR e_rf 5 6 17), (20, t_ldO 0 1 20), (21, t_getI 5 10 21), (24, t_iald 24), (25, t_push (.inl 48) 2 25), (27, t_ii (fun a b => a - b) 27), (28, t_goto 32), (31, t_push (.inl 0) 1 31), (32, t_putI 5 12 32), (35, t_ldO 0 1 35), (36, t_dup 36), (37, t_getI 5 10 37), (40, t_ldI 2 1 40), (41, t_if (fun a => a = 0) 48 41), (44, t_push (.inl 1) 1 44), (45, t_goto 49), (48, t_push (.inl 0) 1 48), (49, t_ii (fun a b => a + b) 49), (50, t_putI 5 10 50), (53, t_ldI 2 1 53), (54, t_zret)]
theorem st_X5_readOne : ∀ x ∈ tb_X5_readOne, e_Sd e_rf RX5 i_X5_readOne x.1 x.2 :=
  e_more (s_aload_n (k := 0) (by decide +kernel) rfl) (
  e_more (s_bipush (n := 48) (v := 48) (by decide +kernel) (by decide)) (
  e_more (s_bipush (n := 48) (v := 48) (by decide +kernel) (by decide)) (
  e_more (s_iload_n (k := 1) (by decide +kernel) rfl) (
  e_more (s_iadd (by decide +kernel)) (
  e_more (e_call0 (s_callV (c := 5) (idx := 163) k_X5_isNext (by decide +kernel) cl_X5_isNext (by decide) rfl wd_1617 wd_1619 wd_53 (by decide) (e_sf_rec rfl))) (
  e_more (s_istore_n (k := 2) (by decide +kernel) rfl (by decide)) (
  e_more (s_aload_n (k := 0) (by decide +kernel) rfl) (
  e_more (s_iload_n (k := 2) (by decide +kernel) rfl) (
  e_more (s_if_eq (off := 18) (by decide +kernel) (by decide)) (
  e_more (s_aload_n (k := 0) (by decide +kernel) rfl) (
  e_more (s_getR (c := 5) (j := 6) (idx := 22) (by decide +kernel) (by decide) (by decide) rfl wd_1355) (
  e_more (s_aload_n (k := 0) (by decide +kernel) rfl) (
  e_more (s_getI (c := 5) (j := 10) (idx := 160) (by decide +kernel) (by decide) (by decide) rfl wd_1359) (
  e_more (s_iald (by decide +kernel)) (
  e_more (s_bipush (n := 48) (v := 48) (by decide +kernel) (by decide)) (
  e_more (s_isub (by decide +kernel)) (
  e_more (s_goto (off := 4) (by decide +kernel) (by decide)) (
  e_more (s_iconst (n := 0) (v := 0) (by decide +kernel) (by decide)) (
  e_more (s_putI (c := 5) (j := 12) (idx := 167) (by decide +kernel) (by decide) (by decide) rfl rfl wd_1361) (
  e_more (s_aload_n (k := 0) (by decide +kernel) rfl) (
  e_more (s_dup (by decide +kernel)) (
  e_more (s_getI (c := 5) (j := 10) (idx := 160) (by decide +kernel) (by decide) (by decide) rfl wd_1359) (
  e_more (s_iload_n (k := 2) (by decide +kernel) rfl) (
  e_more (s_if_eq (off := 7) (by decide +kernel) (by decide)) (
  e_more (s_iconst (n := 1) (v := 1) (by decide +kernel) (by decide)) (
  e_more (s_goto (off := 4) (by decide +kernel) (by decide)) (
  e_more (s_iconst (n := 0) (v := 0) (by decide +kernel) (by decide)) (
  e_more (s_iadd (by decide +kernel)) (
  e_more (s_putI (c := 5) (j := 10) (idx := 160) (by decide +kernel) (by decide) (by decide) rfl rfl wd_1359) (
  e_more (s_iload_n (k := 2) (by decide +kernel) rfl) (
  e_more (s_zret (by decide +kernel) rfl) (
  e_no_more))))))))))))))))))))))))))))))))
def w_X5_readOne : eW := e_sf 13 (e_rn tb_X5_readOne (iL i_X5_readOne) 0 0)
theorem k_X5_readOne : e_OK e_rf i_X5_readOne 0 0 w_X5_readOne := k_sf (k_rn (own := RX5) ⟨by decide +kernel, rfl⟩ st_X5_readOne)
abbrev i_X5_readOther : eI := (yX5_readOther, cX5_readOther, 3, (some .boolean), 2)
theorem cl_X5_readOther : e_Cl i_X5_readOther 1 := ⟨wd_1628, wd_82, ⟨by decide, by decide⟩, by decide +kernel, by decide⟩
def tb_X5_readOther : eTb := [(0, t_ldO 0 1 0), (1, t_push (.inl 48) 2 1), (3, t_push (.inl 48) 2 3), (5, t_ldI 1 1 5), (6, t_ii (fun a b => a + b) 6), (7, t_call0 3 w_X5_isNext 7), (10, t_stI 2 1 10), (11, t_ldO 0 1 11), (12, t_ldI 2 1 12), (13, t_if (fun a => a = 0) 31 13), (16, t_ldO 0 1 16), (17, t_getR e_rf 5 6 17), (20, t_ldO 0 1 20), (21, t_getI 5 10 21), (24, t_iald 24), (25, t_push (.inl 48) 2 25), (27, t_ii (fun a b => a - b) 27), (28, t_goto 32), (31, t_push (.inl 0) 1 31), (32, t_putI 5 13 32), (35, t_ldO 0 1 35), (36, t_dup 36), (37, t_getI 5 10 37), (40, t_ldI 2 1 40), (41, t_if (fun a => a = 0) 48 41), (44, t_push (.inl 1) 1 44), (45, t_goto 49), (48, t_push (.inl 0) 1 48), (49, t_ii (fun a b => a + b) 49), (50, t_putI 5 10 50), (53, t_ldI 2 1 53), (54, t_zret)]
theorem st_X5_readOther : ∀ x ∈ tb_X5_readOther, e_Sd e_rf RX5 i_X5_readOther x.1 x.2 :=
  e_more (s_aload_n (k := 0) (by decide +kernel) rfl) (
  e_more (s_bipush (n := 48) (v := 48) (by decide +kernel) (by decide)) (
  e_more (s_bipush (n := 48) (v := 48) (by decide +kernel) (by decide)) (
  e_more (s_iload_n (k := 1) (by decide +kernel) rfl) (
  e_more (s_iadd (by decide +kernel)) (
  e_more (e_call0 (s_callV (c := 5) (idx := 163) k_X5_isNext (by decide +kernel) cl_X5_isNext (by decide) rfl wd_1617 wd_1619 wd_53 (by decide) (e_sf_rec rfl))) (
  e_more (s_istore_n (k := 2) (by decide +kernel) rfl (by decide)) (
  e_more (s_aload_n (k := 0) (by decide +kernel) rfl) (
  e_more (s_iload_n (k := 2) (by decide +kernel) rfl) (
  e_more (s_if_eq (off := 18) (by decide +kernel) (by decide)) (
  e_more (s_aload_n (k := 0) (by decide +kernel) rfl) (
  e_more (s_getR (c := 5) (j := 6) (idx := 22) (by decide +kernel) (by decide) (by decide) rfl wd_1355) (
  e_more (s_aload_n (k := 0) (by decide +kernel) rfl) (
  e_more (s_getI (c := 5) (j := 10) (idx := 160) (by decide +kernel) (by decide) (by decide) rfl wd_1359) (
  e_more (s_iald (by decide +kernel)) (
  e_more (s_bipush (n := 48) (v := 48) (by decide +kernel) (by decide)) (
  e_more (s_isub (by decide +kernel)) (
  e_more (s_goto (off := 4) (by decide +kernel) (by decide)) (
  e_more (s_iconst (n := 0) (v := 0) (by decide +kernel) (by decide)) (
  e_more (s_putI (c := 5) (j := 13) (idx := 170) (by decide +kernel) (by decide) (by decide) rfl rfl wd_1362) (
  e_more (s_aload_n (k := 0) (by decide +kernel) rfl) (
  e_more (s_dup (by decide +kernel)) (
  e_more (s_getI (c := 5) (j := 10) (idx := 160) (by decide +kernel) (by decide) (by decide) rfl wd_1359) (
  e_more (s_iload_n (k := 2) (by decide +kernel) rfl) (
  e_more (s_if_eq (off := 7) (by decide +kernel) (by decide)) (
  e_more (s_iconst (n := 1) (v := 1) (by decide +kernel) (by decide)) (
  e_more (s_goto (off := 4) (by decide +kernel) (by decide)) (
  e_more (s_iconst (n := 0) (v := 0) (by decide +kernel) (by decide)) (
  e_more (s_iadd (by decide +kernel)) (
  e_more (s_putI (c := 5) (j := 10) (idx := 160) (by decide +kernel) (by decide) (by decide) rfl rfl wd_1359) (
  e_more (s_iload_n (k := 2) (by decide +kernel) rfl) (
  e_more (s_zret (by decide +kernel) rfl) (
  e_no_more))))))))))))))))))))))))))))))))
def w_X5_readOther : eW := e_sf 13 (e_rn tb_X5_readOther (iL i_X5_readOther) 0 0)
theorem k_X5_readOther : e_OK e_rf i_X5_readOther 0 0 w_X5_readOther := k_sf (k_rn (own := RX5) ⟨by decide +kernel, rfl⟩ st_X5_readOther)
abbrev i_X5_readWord : eI := (yX5_readWord, cX5_readWord, 2, (some .boolean), 3)
theorem cl_X5_readWord : e_Cl i_X5_readWord 1 := ⟨wd_1612, wd_82, ⟨by decide, by decide⟩, by decide +kernel, by decide⟩
def tb_X5_readWord_0 : eTb := [(0, t_ldI 1 1 0), (1, t_sw [(98, 82), (100, 167), (108, 44), (116, 120)] 197), (44, t_ldO 0 1 44), (45, t_push (.inl 1) 1 45), (46, t_putI 5 11 46), (49, t_ldO 0 1 49), (50, t_push (.inl 101) 2 50), (52, t_call0 2 w_X5_takes 52), (55, t_if (fun a => a = 0) 80 55), (58, t_ldO 0 1 58), (59, t_push (.inl 110) 2 59), (61, t_call0 2 w_X5_takes 61), (64, t_if (fun a => a = 0) 80 64), (67, t_ldO 0 1 67), (68, t_push (.inl 100) 2 68), (70, t_call0 2 w_X5_takes 70), (73, t_if (fun a => a = 0) 80 73), (76, t_push (.inl 1) 1 76), (77, t_goto 81), (80, t_push (.inl 0) 1 80), (81, t_zret), (82, t_ldO 0 1 82), (83, t_push (.inl 2) 1 83), (84, t_putI 5 11 84), (87, t_ldO 0 1 87), (88, t_push (.inl 97) 2 88), (90, t_call0 2 w_X5_takes 90), (93, t_if (fun a => a = 0) 118 93), (96, t_ldO 0 1 96), (97, t_push (.inl 99) 2 97), (99, t_call0 2 w_X5_takes 99), (102, t_if (fun a => a = 0) 118 102), (105, t_ldO 0 1 105), (106, t_push (.inl 107) 2 106), (108, t_call0 2 w_X5_takes 108), (111, t_if (fun a => a = 0) 118 111), (114, t_push (.inl 1) 1 114), (115, t_goto 119), (118, t_push (.inl 0) 1 118), (119, t_zret)]
theorem st_X5_readWord_0 : ∀ x ∈ tb_X5_readWord_0, e_Sd e_rf RX5 i_X5_readWord x.1 x.2 :=
  e_more (s_iload_n (k := 1) (by decide +kernel) rfl) (
  e_more (s_lookup (dflt := 196) (ps := #[(98, 81), (100, 166), (108, 43), (116, 119)]) (len := 43) (l := [(98, 82), (100, 167), (108, 44), (116, 120)]) (by decide +kernel) (by decide) (by decide +kernel) (fun z hz => by simp [Op.lookupswitch.offset] at hz ⊢; (repeat (split; omega)); rfl) (by decide)) (
  e_more (s_aload_n (k := 0) (by decide +kernel) rfl) (
  e_more (s_iconst (n := 1) (v := 1) (by decide +kernel) (by decide)) (
  e_more (s_putI (c := 5) (j := 11) (idx := 173) (by decide +kernel) (by decide) (by decide) rfl rfl wd_1360) (
  e_more (s_aload_n (k := 0) (by decide +kernel) rfl) (
  e_more (s_bipush (n := 101) (v := 101) (by decide +kernel) (by decide)) (
  e_more (e_call0 (s_callV (c := 5) (idx := 176) k_X5_takes (by decide +kernel) cl_X5_takes (by decide) rfl wd_1613 wd_1615 wd_52 (by decide) (e_sf_rec rfl))) (
  e_more (s_if_eq (off := 25) (by decide +kernel) (by decide)) (
  e_more (s_aload_n (k := 0) (by decide +kernel) rfl) (
  e_more (s_bipush (n := 110) (v := 110) (by decide +kernel) (by decide)) (
  e_more (e_call0 (s_callV (c := 5) (idx := 176) k_X5_takes (by decide +kernel) cl_X5_takes (by decide) rfl wd_1613 wd_1615 wd_52 (by decide) (e_sf_rec rfl))) (
  e_more (s_if_eq (off := 16) (by decide +kernel) (by decide)) (
  e_more (s_aload_n (k := 0) (by decide +kernel) rfl) (
  e_more (s_bipush (n := 100) (v := 100) (by decide +kernel) (by decide)) (
  e_more (e_call0 (s_callV (c := 5) (idx := 176) k_X5_takes (by decide +kernel) cl_X5_takes (by decide) rfl wd_1613 wd_1615 wd_52 (by decide) (e_sf_rec rfl))) (
  e_more (s_if_eq (off := 7) (by decide +kernel) (by decide)) (
  e_more (s_iconst (n := 1) (v := 1) (by decide +kernel) (by decide)) (
  e_more (s_goto (off := 4) (by decide +kernel) (by decide)) (
  e_more (s_iconst (n := 0) (v := 0) (by decide +kernel) (by decide)) (
  e_more (s_zret (by decide +kernel) rfl) (
  e_more (s_aload_n (k := 0) (by decide +kernel) rfl) (
  e_more (s_iconst (n := 2) (v := 2) (by decide +kernel) (by decide)) (
  e_more (s_putI (c := 5) (j := 11) (idx := 173) (by decide +kernel) (by decide) (by decide) rfl rfl wd_1360) (
  e_more (s_aload_n (k := 0) (by decide +kernel) rfl) (
  e_more (s_bipush (n := 97) (v := 97) (by decide +kernel) (by decide)) (
  e_more (e_call0 (s_callV (c := 5) (idx := 176) k_X5_takes (by decide +kernel) cl_X5_takes (by decide) rfl wd_1613 wd_1615 wd_52 (by decide) (e_sf_rec rfl))) (
  e_more (s_if_eq (off := 25) (by decide +kernel) (by decide)) (
  e_more (s_aload_n (k := 0) (by decide +kernel) rfl) (
  e_more (s_bipush (n := 99) (v := 99) (by decide +kernel) (by decide)) (
  e_more (e_call0 (s_callV (c := 5) (idx := 176) k_X5_takes (by decide +kernel) cl_X5_takes (by decide) rfl wd_1613 wd_1615 wd_52 (by decide) (e_sf_rec rfl))) (
  e_more (s_if_eq (off := 16) (by decide +kernel) (by decide)) (
  e_more (s_aload_n (k := 0) (by decide +kernel) rfl) (
  e_more (s_bipush (n := 107) (v := 107) (by decide +kernel) (by decide)) (
  e_more (e_call0 (s_callV (c := 5) (idx := 176) k_X5_takes (by decide +kernel) cl_X5_takes (by decide) rfl wd_1613 wd_1615 wd_52 (by decide) (e_sf_rec rfl))) (
  e_more (s_if_eq (off := 7) (by decide +kernel) (by decide)) (
  e_more (s_iconst (n := 1) (v := 1) (by decide +kernel) (by decide)) (
  e_more (s_goto (off := 4) (by decide +kernel) (by decide)) (
  e_more (s_iconst (n := 0) (v := 0) (by decide +kernel) (by decide)) (
  e_more (s_zret (by decide +kernel) rfl) (
  e_no_more))))))))))))))))))))))))))))))))))))))))
def tb_X5_readWord_1 : eTb := [(120, t_ldO 0 1 120), (121, t_push (.inl 3) 1 121), (122, t_putI 5 11 122), (125, t_ldO 0 1 125), (126, t_push (.inl 101) 2 126), (128, t_call0 2 w_X5_takes 128), (131, t_if (fun a => a = 0) 165 131), (134, t_ldO 0 1 134), (135, t_push (.inl 97) 2 135), (137, t_call0 2 w_X5_takes 137), (140, t_if (fun a => a = 0) 165 140), (143, t_ldO 0 1 143), (144, t_push (.inl 99) 2 144), (146, t_call0 2 w_X5_takes 146), (149, t_if (fun a => a = 0) 165 149), (152, t_ldO 0 1 152), (153, t_push (.inl 104) 2 153), (155, t_call0 2 w_X5_takes 155), (158, t_if (fun a => a = 0) 165 158), (161, t_push (.inl 1) 1 161), (162, t_goto 166), (165, t_push (.inl 0) 1 165), (166, t_zret), (167, t_ldO 0 1 167), (168, t_push (.inl 6) 2 168), (170, t_putI 5 11 170), (173, t_ldO 0 1 173), (174, t_push (.inl 97) 2 174), (176, t_call0 2 w_X5_takes 176), (179, t_if (fun a => a = 0) 195 179), (182, t_ldO 0 1 182), (183, t_push (.inl 121) 2 183), (185, t_call0 2 w_X5_takes 185), (188, t_if (fun a => a = 0) 195 188), (191, t_push (.inl 1) 1 191), (192, t_goto 196), (195, t_push (.inl 0) 1 195), (196, t_zret), (197, t_ldO 0 1 197), (198, t_push (.inl 97) 2 198)]
theorem st_X5_readWord_1 : ∀ x ∈ tb_X5_readWord_1, e_Sd e_rf RX5 i_X5_readWord x.1 x.2 :=
  e_more (s_aload_n (k := 0) (by decide +kernel) rfl) (
  e_more (s_iconst (n := 3) (v := 3) (by decide +kernel) (by decide)) (
  e_more (s_putI (c := 5) (j := 11) (idx := 173) (by decide +kernel) (by decide) (by decide) rfl rfl wd_1360) (
  e_more (s_aload_n (k := 0) (by decide +kernel) rfl) (
  e_more (s_bipush (n := 101) (v := 101) (by decide +kernel) (by decide)) (
  e_more (e_call0 (s_callV (c := 5) (idx := 176) k_X5_takes (by decide +kernel) cl_X5_takes (by decide) rfl wd_1613 wd_1615 wd_52 (by decide) (e_sf_rec rfl))) (
  e_more (s_if_eq (off := 34) (by decide +kernel) (by decide)) (
  e_more (s_aload_n (k := 0) (by decide +kernel) rfl) (
  e_more (s_bipush (n := 97) (v := 97) (by decide +kernel) (by decide)) (
  e_more (e_call0 (s_callV (c := 5) (idx := 176) k_X5_takes (by decide +kernel) cl_X5_takes (by decide) rfl wd_1613 wd_1615 wd_52 (by decide) (e_sf_rec rfl))) (
  e_more (s_if_eq (off := 25) (by decide +kernel) (by decide)) (
  e_more (s_aload_n (k := 0) (by decide +kernel) rfl) (
  e_more (s_bipush (n := 99) (v := 99) (by decide +kernel) (by decide)) (
  e_more (e_call0 (s_callV (c := 5) (idx := 176) k_X5_takes (by decide +kernel) cl_X5_takes (by decide) rfl wd_1613 wd_1615 wd_52 (by decide) (e_sf_rec rfl))) (
  e_more (s_if_eq (off := 16) (by decide +kernel) (by decide)) (
  e_more (s_aload_n (k := 0) (by decide +kernel) rfl) (
  e_more (s_bipush (n := 104) (v := 104) (by decide +kernel) (by decide)) (
  e_more (e_call0 (s_callV (c := 5) (idx := 176) k_X5_takes (by decide +kernel) cl_X5_takes (by decide) rfl wd_1613 wd_1615 wd_52 (by decide) (e_sf_rec rfl))) (
  e_more (s_if_eq (off := 7) (by decide +kernel) (by decide)) (
  e_more (s_iconst (n := 1) (v := 1) (by decide +kernel) (by decide)) (
  e_more (s_goto (off := 4) (by decide +kernel) (by decide)) (
  e_more (s_iconst (n := 0) (v := 0) (by decide +kernel) (by decide)) (
  e_more (s_zret (by decide +kernel) rfl) (
  e_more (s_aload_n (k := 0) (by decide +kernel) rfl) (
  e_more (s_bipush (n := 6) (v := 6) (by decide +kernel) (by decide)) (
  e_more (s_putI (c := 5) (j := 11) (idx := 173) (by decide +kernel) (by decide) (by decide) rfl rfl wd_1360) (
  e_more (s_aload_n (k := 0) (by decide +kernel) rfl) (
  e_more (s_bipush (n := 97) (v := 97) (by decide +kernel) (by decide)) (
  e_more (e_call0 (s_callV (c := 5) (idx := 176) k_X5_takes (by decide +kernel) cl_X5_takes (by decide) rfl wd_1613 wd_1615 wd_52 (by decide) (e_sf_rec rfl))) (
  e_more (s_if_eq (off := 16) (by decide +kernel) (by decide)) (
  e_more (s_aload_n (k := 0) (by decide +kernel) rfl) (
  e_more (s_bipush (n := 121) (v := 121) (by decide +kernel) (by decide)) (
  e_more (e_call0 (s_callV (c := 5) (idx := 176) k_X5_takes (by decide +kernel) cl_X5_takes (by decide) rfl wd_1613 wd_1615 wd_52 (by decide) (e_sf_rec rfl))) (
  e_more (s_if_eq (off := 7) (by decide +kernel) (by decide)) (
  e_more (s_iconst (n := 1) (v := 1) (by decide +kernel) (by decide)) (
  e_more (s_goto (off := 4) (by decide +kernel) (by decide)) (
  e_more (s_iconst (n := 0) (v := 0) (by decide +kernel) (by decide)) (
  e_more (s_zret (by decide +kernel) rfl) (
  e_more (s_aload_n (k := 0) (by decide +kernel) rfl) (
  e_more (s_bipush (n := 97) (v := 97) (by decide +kernel) (by decide)) (
  e_no_more))))))))))))))))))))))))))))))))))))))))
def tb_X5_readWord_2 : eTb := [(200, t_call0 2 w_X5_takes 200), (203, t_if (fun a => a = 0) 244 203), (206, t_ldO 0 1 206), (207, t_push (.inl 4) 1 207), (208, t_putI 5 11 208), (211, t_ldO 0 1 211), (212, t_push (.inl 114) 2 212), (214, t_call0 2 w_X5_takes 214), (217, t_if (fun a => a = 0) 242 217), (220, t_ldO 0 1 220), (221, t_push (.inl 99) 2 221), (223, t_call0 2 w_X5_takes 223), (226, t_if (fun a => a = 0) 242 226), (229, t_ldO 0 1 229), (230, t_push (.inl 104) 2 230), (232, t_call0 2 w_X5_takes 232), (235, t_if (fun a => a = 0) 242 235), (238, t_push (.inl 1) 1 238), (239, t_goto 243), (242, t_push (.inl 0) 1 242), (243, t_zret), (244, t_ldO 0 1 244), (245, t_push (.inl 5) 1 245), (246, t_putI 5 11 246), (249, t_ldO 0 1 249), (250, t_push (.inl 101) 2 250), (252, t_call0 2 w_X5_takes 252), (255, t_if (fun a => a = 0) 280 255), (258, t_ldO 0 1 258), (259, t_push (.inl 110) 2 259), (261, t_call0 2 w_X5_takes 261), (264, t_if (fun a => a = 0) 280 264), (267, t_ldO 0 1 267), (268, t_push (.inl 100) 2 268), (270, t_call0 2 w_X5_takes 270), (273, t_if (fun a => a = 0) 280 273), (276, t_push (.inl 1) 1 276), (277, t_goto 281), (280, t_push (.inl 0) 1 280), (281, t_zret)]
theorem st_X5_readWord_2 : ∀ x ∈ tb_X5_readWord_2, e_Sd e_rf RX5 i_X5_readWord x.1 x.2 :=
  e_more (e_call0 (s_callV (c := 5) (idx := 176) k_X5_takes (by decide +kernel) cl_X5_takes (by decide) rfl wd_1613 wd_1615 wd_52 (by decide) (e_sf_rec rfl))) (
  e_more (s_if_eq (off := 41) (by decide +kernel) (by decide)) (
  e_more (s_aload_n (k := 0) (by decide +kernel) rfl) (
  e_more (s_iconst (n := 4) (v := 4) (by decide +kernel) (by decide)) (
  e_more (s_putI (c := 5) (j := 11) (idx := 173) (by decide +kernel) (by decide) (by decide) rfl rfl wd_1360) (
  e_more (s_aload_n (k := 0) (by decide +kernel) rfl) (
  e_more (s_bipush (n := 114) (v := 114) (by decide +kernel) (by decide)) (
  e_more (e_call0 (s_callV (c := 5) (idx := 176) k_X5_takes (by decide +kernel) cl_X5_takes (by decide) rfl wd_1613 wd_1615 wd_52 (by decide) (e_sf_rec rfl))) (
  e_more (s_if_eq (off := 25) (by decide +kernel) (by decide)) (
  e_more (s_aload_n (k := 0) (by decide +kernel) rfl) (
  e_more (s_bipush (n := 99) (v := 99) (by decide +kernel) (by decide)) (
  e_more (e_call0 (s_callV (c := 5) (idx := 176) k_X5_takes (by decide +kernel) cl_X5_takes (by decide) rfl wd_1613 wd_1615 wd_52 (by decide) (e_sf_rec rfl))) (
  e_more (s_if_eq (off := 16) (by decide +kernel) (by decide)) (
  e_more (s_aload_n (k := 0) (by decide +kernel) rfl) (
  e_more (s_bipush (n := 104) (v := 104) (by decide +kernel) (by decide)) (
  e_more (e_call0 (s_callV (c := 5) (idx := 176) k_X5_takes (by decide +kernel) cl_X5_takes (by decide) rfl wd_1613 wd_1615 wd_52 (by decide) (e_sf_rec rfl))) (
  e_more (s_if_eq (off := 7) (by decide +kernel) (by decide)) (
  e_more (s_iconst (n := 1) (v := 1) (by decide +kernel) (by decide)) (
  e_more (s_goto (off := 4) (by decide +kernel) (by decide)) (
  e_more (s_iconst (n := 0) (v := 0) (by decide +kernel) (by decide)) (
  e_more (s_zret (by decide +kernel) rfl) (
  e_more (s_aload_n (k := 0) (by decide +kernel) rfl) (
  e_more (s_iconst (n := 5) (v := 5) (by decide +kernel) (by decide)) (
  e_more (s_putI (c := 5) (j := 11) (idx := 173) (by decide +kernel) (by decide) (by decide) rfl rfl wd_1360) (
  e_more (s_aload_n (k := 0) (by decide +kernel) rfl) (
  e_more (s_bipush (n := 101) (v := 101) (by decide +kernel) (by decide)) (
  e_more (e_call0 (s_callV (c := 5) (idx := 176) k_X5_takes (by decide +kernel) cl_X5_takes (by decide) rfl wd_1613 wd_1615 wd_52 (by decide) (e_sf_rec rfl))) (
  e_more (s_if_eq (off := 25) (by decide +kernel) (by decide)) (
  e_more (s_aload_n (k := 0) (by decide +kernel) rfl) (
  e_more (s_bipush (n := 110) (v := 110) (by decide +kernel) (by decide)) (
  e_more (e_call0 (s_callV (c := 5) (idx := 176) k_X5_takes (by decide +kernel) cl_X5_takes (by decide) rfl wd_1613 wd_1615 wd_52 (by decide) (e_sf_rec rfl))) (
  e_more (s_if_eq (off := 16) (by decide +kernel) (by decide)) (
  e_more (s_aload_n (k := 0) (by decide +kernel) rfl) (
  e_more (s_bipush (n := 100) (v := 100) (by decide +kernel) (by decide)) (
  e_more (e_call0 (s_callV (c := 5) (idx := 176) k_X5_takes (by decide +kernel) cl_X5_takes (by decide) rfl wd_1613 wd_1615 wd_52 (by decide) (e_sf_rec rfl))) (
  e_more (s_if_eq (off := 7) (by decide +kernel) (by decide)) (
  e_more (s_iconst (n := 1) (v := 1) (by decide +kernel) (by decide)) (
  e_more (s_goto (off := 4) (by decide +kernel) (by decide)) (
  e_more (s_iconst (n := 0) (v := 0) (by decide +kernel) (by decide)) (
  e_more (s_zret (by decide +kernel) rfl) (
  e_no_more))))))))))))))))))))))))))))))))))))))))
def tb_X5_readWord : eTb := tb_X5_readWord_0 ++ tb_X5_readWord_1 ++ tb_X5_readWord_2
theorem st_X5_readWord : ∀ x ∈ tb_X5_readWord, e_Sd e_rf RX5 i_X5_readWord x.1 x.2 := e_app (e_app (st_X5_readWord_0) st_X5_readWord_1) st_X5_readWord_2
def w_X5_readWord : eW := e_sf 13 (e_rn tb_X5_readWord (iL i_X5_readWord) 0 0)
theorem k_X5_readWord : e_OK e_rf i_X5_readWord 0 0 w_X5_readWord := k_sf (k_rn (own := RX5) ⟨by decide +kernel, rfl⟩ st_X5_readWord)
abbrev i_X5_readPart : eI := (yX5_readPart, cX5_readPart, 2, (some .boolean), 4)
theorem cl_X5_readPart : e_Cl i_X5_readPart 0 := ⟨wd_1608, wd_82, ⟨by decide, by decide⟩, by decide +kernel, by decide⟩
def tb_X5_readPart_0 : eTb := [(0, t_ldO 0 1 0), (1, t_getI 5 10 1), (4, t_ldO 0 1 4), (5, t_getI 5 7 5), (8, t_ic (fun a b => b ≤ a) 23 8), (11, t_ldO 0 1 11), (12, t_getR e_rf 5 6 12), (15, t_ldO 0 1 15), (16, t_getI 5 10 16), (19, t_iald 19), (20, t_goto 24), (23, t_push (.inl 0) 1 23), (24, t_stI 1 1 24), (25, t_ldI 1 1 25), (26, t_push (.inl 108) 2 26), (28, t_ic (fun a b => a = b) 57 28), (31, t_ldI 1 1 31), (32, t_push (.inl 98) 2 32), (34, t_ic (fun a b => a = b) 57 34), (37, t_ldI 1 1 37), (38, t_push (.inl 116) 2 38), (40, t_ic (fun a b => a = b) 57 40), (43, t_ldI 1 1 43), (44, t_push (.inl 100) 2 44), (46, t_ic (fun a b => a = b) 57 46), (49, t_ldI 1 1 49), (50, t_push (.inl 109) 2 50), (52, t_ic (fun a b => a = b) 57 52), (55, t_push (.inl 0) 1 55), (56, t_zret), (57, t_ldO 0 1 57), (58, t_dup 58), (59, t_getI 5 10 59), (62, t_push (.inl 1) 1 62), (63, t_ii (fun a b => a + b) 63), (64, t_putI 5 10 64), (67, t_ldO 0 1 67), (68, t_ldI 1 1 68), (69, t_call0 2 w_X5_readWord 69), (72, t_ifn (fun a => a = 0) 77 72)]
theorem st_X5_readPart_0 : ∀ x ∈ tb_X5_readPart_0, e_Sd e_rf RX5 i_X5_readPart x.1 x.2 :=
  e_more (s_aload_n (k := 0) (by decide +kernel) rfl) (
  e_more (s_getI (c := 5) (j := 10) (idx := 160) (by decide +kernel) (by decide) (by decide) rfl wd_1359) (
  e_more (s_aload_n (k := 0) (by decide +kernel) rfl) (
  e_more (s_getI (c := 5) (j := 7) (idx := 157) (by decide +kernel) (by decide) (by decide) rfl wd_1356) (
  e_more (s_ic_ge (off := 15) (by decide +kernel) (by decide)) (
  e_more (s_aload_n (k := 0) (by decide +kernel) rfl) (
  e_more (s_getR (c := 5) (j := 6) (idx := 22) (by decide +kernel) (by decide) (by decide) rfl wd_1355) (
  e_more (s_aload_n (k := 0) (by decide +kernel) rfl) (
  e_more (s_getI (c := 5) (j := 10) (idx := 160) (by decide +kernel) (by decide) (by decide) rfl wd_1359) (
  e_more (s_iald (by decide +kernel)) (
  e_more (s_goto (off := 4) (by decide +kernel) (by decide)) (
  e_more (s_iconst (n := 0) (v := 0) (by decide +kernel) (by decide)) (
  e_more (s_istore_n (k := 1) (by decide +kernel) rfl (by decide)) (
  e_more (s_iload_n (k := 1) (by decide +kernel) rfl) (
  e_more (s_bipush (n := 108) (v := 108) (by decide +kernel) (by decide)) (
  e_more (s_ic_eq (off := 29) (by decide +kernel) (by decide)) (
  e_more (s_iload_n (k := 1) (by decide +kernel) rfl) (
  e_more (s_bipush (n := 98) (v := 98) (by decide +kernel) (by decide)) (
  e_more (s_ic_eq (off := 23) (by decide +kernel) (by decide)) (
  e_more (s_iload_n (k := 1) (by decide +kernel) rfl) (
  e_more (s_bipush (n := 116) (v := 116) (by decide +kernel) (by decide)) (
  e_more (s_ic_eq (off := 17) (by decide +kernel) (by decide)) (
  e_more (s_iload_n (k := 1) (by decide +kernel) rfl) (
  e_more (s_bipush (n := 100) (v := 100) (by decide +kernel) (by decide)) (
  e_more (s_ic_eq (off := 11) (by decide +kernel) (by decide)) (
  e_more (s_iload_n (k := 1) (by decide +kernel) rfl) (
  e_more (s_bipush (n := 109) (v := 109) (by decide +kernel) (by decide)) (
  e_more (s_ic_eq (off := 5) (by decide +kernel) (by decide)) (
  e_more (s_iconst (n := 0) (v := 0) (by decide +kernel) (by decide)) (
  e_more (s_zret (by decide +kernel) rfl) (
  e_more (s_aload_n (k := 0) (by decide +kernel) rfl) (
  e_more (s_dup (by decide +kernel)) (
  e_more (s_getI (c := 5) (j := 10) (idx := 160) (by decide +kernel) (by decide) (by decide) rfl wd_1359) (
  e_more (s_iconst (n := 1) (v := 1) (by decide +kernel) (by decide)) (
  e_more (s_iadd (by decide +kernel)) (
  e_more (s_putI (c := 5) (j := 10) (idx := 160) (by decide +kernel) (by decide) (by decide) rfl rfl wd_1359) (
  e_more (s_aload_n (k := 0) (by decide +kernel) rfl) (
  e_more (s_iload_n (k := 1) (by decide +kernel) rfl) (
  e_more (e_call0 (s_callV (c := 5) (idx := 179) k_X5_readWord (by decide +kernel) cl_X5_readWord (by decide) rfl wd_1609 wd_1611 wd_51 (by decide) (e_sf_rec rfl))) (
  e_more (s_if_ne (off := 5) (by decide +kernel) (by decide)) (
  e_no_more))))))))))))))))))))))))))))))))))))))))
def tb_X5_readPart_1 : eTb := [(75, t_push (.inl 0) 1 75), (76, t_zret), (77, t_ldO 0 1 77), (78, t_getI 5 11 78), (81, t_sw [(1, 120), (2, 175), (3, 144), (4, 167), (5, 175), (6, 173)] 175), (120, t_ldO 0 1 120), (121, t_push (.inl 9) 2 121), (123, t_call0 2 w_X5_readOne 123), (126, t_if (fun a => a = 0) 142 126), (129, t_ldO 0 1 129), (130, t_push (.inl 9) 2 130), (132, t_call0 2 w_X5_readOther 132), (135, t_if (fun a => a = 0) 142 135), (138, t_push (.inl 1) 1 138), (139, t_goto 143), (142, t_push (.inl 0) 1 142), (143, t_zret), (144, t_ldO 0 1 144), (145, t_push (.inl 9) 2 145), (147, t_call0 2 w_X5_readOne 147), (150, t_if (fun a => a = 0) 165 150), (153, t_ldO 0 1 153), (154, t_push (.inl 2) 1 154), (155, t_call0 2 w_X5_readOther 155), (158, t_if (fun a => a = 0) 165 158), (161, t_push (.inl 1) 1 161), (162, t_goto 166), (165, t_push (.inl 0) 1 165), (166, t_zret), (167, t_ldO 0 1 167), (168, t_push (.inl 3) 1 168), (169, t_call0 2 w_X5_readOne 169), (172, t_zret), (173, t_push (.inl 1) 1 173), (174, t_zret), (175, t_ldO 0 1 175), (176, t_push (.inl 9) 2 176), (178, t_call0 2 w_X5_readOne 178), (181, t_zret)]
theorem st_X5_readPart_1 : ∀ x ∈ tb_X5_readPart_1, e_Sd e_rf RX5 i_X5_readPart x.1 x.2 :=
  e_more (s_iconst (n := 0) (v := 0) (by decide +kernel) (by decide)) (
  e_more (s_zret (by decide +kernel) rfl) (
  e_more (s_aload_n (k := 0) (by decide +kernel) rfl) (
  e_more (s_getI (c := 5) (j := 11) (idx := 173) (by decide +kernel) (by decide) (by decide) rfl wd_1360) (
  e_more (s_table (dflt := 94) (lo := 1) (hi := 6) (offs := #[39, 94, 63, 86, 94, 92]) (len := 39) (l := [(1, 120), (2, 175), (3, 144), (4, 167), (5, 175), (6, 173)]) (by decide +kernel) (by decide +kernel) (by decide +kernel) (by decide)) (
  e_more (s_aload_n (k := 0) (by decide +kernel) rfl) (
  e_more (s_bipush (n := 9) (v := 9) (by decide +kernel) (by decide)) (
  e_more (e_call0 (s_callV (c := 5) (idx := 182) k_X5_readOne (by decide +kernel) cl_X5_readOne (by decide) rfl wd_1621 wd_1623 wd_54 (by decide) (e_sf_rec rfl))) (
  e_more (s_if_eq (off := 16) (by decide +kernel) (by decide)) (
  e_more (s_aload_n (k := 0) (by decide +kernel) rfl) (
  e_more (s_bipush (n := 9) (v := 9) (by decide +kernel) (by decide)) (
  e_more (e_call0 (s_callV (c := 5) (idx := 185) k_X5_readOther (by decide +kernel) cl_X5_readOther (by decide) rfl wd_1625 wd_1627 wd_55 (by decide) (e_sf_rec rfl))) (
  e_more (s_if_eq (off := 7) (by decide +kernel) (by decide)) (
  e_more (s_iconst (n := 1) (v := 1) (by decide +kernel) (by decide)) (
  e_more (s_goto (off := 4) (by decide +kernel) (by decide)) (
  e_more (s_iconst (n := 0) (v := 0) (by decide +kernel) (by decide)) (
  e_more (s_zret (by decide +kernel) rfl) (
  e_more (s_aload_n (k := 0) (by decide +kernel) rfl) (
  e_more (s_bipush (n := 9) (v := 9) (by decide +kernel) (by decide)) (
  e_more (e_call0 (s_callV (c := 5) (idx := 182) k_X5_readOne (by decide +kernel) cl_X5_readOne (by decide) rfl wd_1621 wd_1623 wd_54 (by decide) (e_sf_rec rfl))) (
  e_more (s_if_eq (off := 15) (by decide +kernel) (by decide)) (
  e_more (s_aload_n (k := 0) (by decide +kernel) rfl) (
  e_more (s_iconst (n := 2) (v := 2) (by decide +kernel) (by decide)) (
  e_more (e_call0 (s_callV (c := 5) (idx := 185) k_X5_readOther (by decide +kernel) cl_X5_readOther (by decide) rfl wd_1625 wd_1627 wd_55 (by decide) (e_sf_rec rfl))) (
  e_more (s_if_eq (off := 7) (by decide +kernel) (by decide)) (
  e_more (s_iconst (n := 1) (v := 1) (by decide +kernel) (by decide)) (
  e_more (s_goto (off := 4) (by decide +kernel) (by decide)) (
  e_more (s_iconst (n := 0) (v := 0) (by decide +kernel) (by decide)) (
  e_more (s_zret (by decide +kernel) rfl) (
  e_more (s_aload_n (k := 0) (by decide +kernel) rfl) (
  e_more (s_iconst (n := 3) (v := 3) (by decide +kernel) (by decide)) (
  e_more (e_call0 (s_callV (c := 5) (idx := 182) k_X5_readOne (by decide +kernel) cl_X5_readOne (by decide) rfl wd_1621 wd_1623 wd_54 (by decide) (e_sf_rec rfl))) (
  e_more (s_zret (by decide +kernel) rfl) (
  e_more (s_iconst (n := 1) (v := 1) (by decide +kernel) (by decide)) (
  e_more (s_zret (by decide +kernel) rfl) (
  e_more (s_aload_n (k := 0) (by decide +kernel) rfl) (
  e_more (s_bipush (n := 9) (v := 9) (by decide +kernel) (by decide)) (
  e_more (e_call0 (s_callV (c := 5) (idx := 182) k_X5_readOne (by decide +kernel) cl_X5_readOne (by decide) rfl wd_1621 wd_1623 wd_54 (by decide) (e_sf_rec rfl))) (
  e_more (s_zret (by decide +kernel) rfl) (
  e_no_more)))))))))))))))))))))))))))))))))))))))
def tb_X5_readPart : eTb := tb_X5_readPart_0 ++ tb_X5_readPart_1
theorem st_X5_readPart : ∀ x ∈ tb_X5_readPart, e_Sd e_rf RX5 i_X5_readPart x.1 x.2 := e_app (st_X5_readPart_0) st_X5_readPart_1
def w_X5_readPart : eW := e_sf 13 (e_rn tb_X5_readPart (iL i_X5_readPart) 0 0)
theorem k_X5_readPart : e_OK e_rf i_X5_readPart 0 0 w_X5_readPart := k_sf (k_rn (own := RX5) ⟨by decide +kernel, rfl⟩ st_X5_readPart)
abbrev i_X5_errorOfPart : eI := (yX5_errorOfPart, cX5_errorOfPart, 1, (some .int), 5)
theorem cl_X5_errorOfPart : e_Cl i_X5_errorOfPart 0 := ⟨wd_1632, wd_82, ⟨by decide, by decide⟩, by decide +kernel, by decide⟩
def tb_X5_errorOfPart : eTb := [(0, t_ldO 0 1 0), (1, t_getI 5 11 1), (4, t_sw [(1, 40), (2, 53), (3, 62), (4, 75), (5, 84)] 93), (40, t_ldO 0 1 40), (41, t_ldO 0 1 41), (42, t_getI 5 12 42), (45, t_ldO 0 1 45), (46, t_getI 5 13 46), (49, t_call0 3 w_X5_lendError 49), (52, t_jret), (53, t_ldO 0 1 53), (54, t_ldO 0 1 54), (55, t_getI 5 12 55), (58, t_call0 2 w_X5_backError 58), (61, t_jret), (62, t_ldO 0 1 62), (63, t_ldO 0 1 63), (64, t_getI 5 12 64), (67, t_ldO 0 1 67), (68, t_getI 5 13 68), (71, t_call0 3 w_X5_teachError 71), (74, t_jret), (75, t_ldO 0 1 75), (76, t_ldO 0 1 76), (77, t_getI 5 12 77), (80, t_call0 2 w_X5_marchError 80), (83, t_jret), (84, t_ldO 0 1 84), (85, t_ldO 0 1 85), (86, t_getI 5 12 86), (89, t_call0 2 w_X5_mendError 89), (92, t_jret), (93, t_push (.inl 0) 1 93), (94, t_jret)]
theorem st_X5_errorOfPart : ∀ x ∈ tb_X5_errorOfPart, e_Sd e_rf RX5 i_X5_errorOfPart x.1 x.2 :=
  e_more (s_aload_n (k := 0) (by decide +kernel) rfl) (
  e_more (s_getI (c := 5) (j := 11) (idx := 173) (by decide +kernel) (by decide) (by decide) rfl wd_1360) (
  e_more (s_table (dflt := 89) (lo := 1) (hi := 5) (offs := #[36, 49, 58, 71, 80]) (len := 36) (l := [(1, 40), (2, 53), (3, 62), (4, 75), (5, 84)]) (by decide +kernel) (by decide +kernel) (by decide +kernel) (by decide)) (
  e_more (s_aload_n (k := 0) (by decide +kernel) rfl) (
  e_more (s_aload_n (k := 0) (by decide +kernel) rfl) (
  e_more (s_getI (c := 5) (j := 12) (idx := 167) (by decide +kernel) (by decide) (by decide) rfl wd_1361) (
  e_more (s_aload_n (k := 0) (by decide +kernel) rfl) (
  e_more (s_getI (c := 5) (j := 13) (idx := 170) (by decide +kernel) (by decide) (by decide) rfl wd_1362) (
  e_more (e_call0 (s_callV (c := 5) (idx := 124) k_X5_lendError (by decide +kernel) cl_X5_lendError (by decide) rfl wd_1436 wd_1438 wd_24 (by decide) (e_sf_rec rfl))) (
  e_more (s_jret (by decide +kernel) rfl) (
  e_more (s_aload_n (k := 0) (by decide +kernel) rfl) (
  e_more (s_aload_n (k := 0) (by decide +kernel) rfl) (
  e_more (s_getI (c := 5) (j := 12) (idx := 167) (by decide +kernel) (by decide) (by decide) rfl wd_1361) (
  e_more (e_call0 (s_callV (c := 5) (idx := 130) k_X5_backError (by decide +kernel) cl_X5_backError (by decide) rfl wd_1472 wd_1474 wd_32 (by decide) (e_sf_rec rfl))) (
  e_more (s_jret (by decide +kernel) rfl) (
  e_more (s_aload_n (k := 0) (by decide +kernel) rfl) (
  e_more (s_aload_n (k := 0) (by decide +kernel) rfl) (
  e_more (s_getI (c := 5) (j := 12) (idx := 167) (by decide +kernel) (by decide) (by decide) rfl wd_1361) (
  e_more (s_aload_n (k := 0) (by decide +kernel) rfl) (
  e_more (s_getI (c := 5) (j := 13) (idx := 170) (by decide +kernel) (by decide) (by decide) rfl wd_1362) (
  e_more (e_call0 (s_callV (c := 5) (idx := 145) k_X5_teachError (by decide +kernel) cl_X5_teachError (by decide) rfl wd_1520 wd_1522 wd_38 (by decide) (e_sf_rec rfl))) (
  e_more (s_jret (by decide +kernel) rfl) (
  e_more (s_aload_n (k := 0) (by decide +kernel) rfl) (
  e_more (s_aload_n (k := 0) (by decide +kernel) rfl) (
  e_more (s_getI (c := 5) (j := 12) (idx := 167) (by decide +kernel) (by decide) (by decide) rfl wd_1361) (
  e_more (e_call0 (s_callV (c := 5) (idx := 151) k_X5_marchError (by decide +kernel) cl_X5_marchError (by decide) rfl wd_1553 wd_1555 wd_43 (by decide) (e_sf_rec rfl))) (
  e_more (s_jret (by decide +kernel) rfl) (
  e_more (s_aload_n (k := 0) (by decide +kernel) rfl) (
  e_more (s_aload_n (k := 0) (by decide +kernel) rfl) (
  e_more (s_getI (c := 5) (j := 12) (idx := 167) (by decide +kernel) (by decide) (by decide) rfl wd_1361) (
  e_more (e_call0 (s_callV (c := 5) (idx := 136) k_X5_mendError (by decide +kernel) cl_X5_mendError (by decide) rfl wd_1492 wd_1494 wd_35 (by decide) (e_sf_rec rfl))) (
  e_more (s_jret (by decide +kernel) rfl) (
  e_more (s_iconst (n := 0) (v := 0) (by decide +kernel) (by decide)) (
  e_more (s_jret (by decide +kernel) rfl) (
  e_no_more))))))))))))))))))))))))))))))))))
def w_X5_errorOfPart : eW := e_sf 13 (e_rn tb_X5_errorOfPart (iL i_X5_errorOfPart) 0 0)
theorem k_X5_errorOfPart : e_OK e_rf i_X5_errorOfPart 0 0 w_X5_errorOfPart := k_sf (k_rn (own := RX5) ⟨by decide +kernel, rfl⟩ st_X5_errorOfPart)
abbrev i_X5_does : eI := (yX5_does, cX5_does, 1, (some .int), 7)
theorem cl_X5_does : e_Cl i_X5_does 0 := ⟨wd_1636, wd_82, ⟨by decide, by decide⟩, by decide +kernel, by decide⟩
def tb_X5_does : eTb := [(0, t_ldO 0 1 0), (1, t_getI 5 11 1), (4, t_sw [(1, 40), (2, 53), (3, 62), (4, 75), (5, 84)] 93), (40, t_ldO 0 1 40), (41, t_ldO 0 1 41), (42, t_getI 5 12 42), (45, t_ldO 0 1 45), (46, t_getI 5 13 46), (49, t_call0 3 w_X5_doLend 49), (52, t_jret), (53, t_ldO 0 1 53), (54, t_ldO 0 1 54), (55, t_getI 5 12 55), (58, t_call0 2 w_X5_doBack 58), (61, t_jret), (62, t_ldO 0 1 62), (63, t_ldO 0 1 63), (64, t_getI 5 12 64), (67, t_ldO 0 1 67), (68, t_getI 5 13 68), (71, t_call0 3 w_X5_doTeach 71), (74, t_jret), (75, t_ldO 0 1 75), (76, t_ldO 0 1 76), (77, t_getI 5 12 77), (80, t_call0 2 w_X5_doMarch 80), (83, t_jret), (84, t_ldO 0 1 84), (85, t_ldO 0 1 85), (86, t_getI 5 12 86), (89, t_call0 2 w_X5_doMend 89), (92, t_jret), (93, t_ldO 0 1 93), (94, t_push (.inl 1) 1 94), (95, t_call0 2 w_X5_doPass 95), (98, t_jret)]
theorem st_X5_does : ∀ x ∈ tb_X5_does, e_Sd e_rf RX5 i_X5_does x.1 x.2 :=
  e_more (s_aload_n (k := 0) (by decide +kernel) rfl) (
  e_more (s_getI (c := 5) (j := 11) (idx := 173) (by decide +kernel) (by decide) (by decide) rfl wd_1360) (
  e_more (s_table (dflt := 89) (lo := 1) (hi := 5) (offs := #[36, 49, 58, 71, 80]) (len := 36) (l := [(1, 40), (2, 53), (3, 62), (4, 75), (5, 84)]) (by decide +kernel) (by decide +kernel) (by decide +kernel) (by decide)) (
  e_more (s_aload_n (k := 0) (by decide +kernel) rfl) (
  e_more (s_aload_n (k := 0) (by decide +kernel) rfl) (
  e_more (s_getI (c := 5) (j := 12) (idx := 167) (by decide +kernel) (by decide) (by decide) rfl wd_1361) (
  e_more (s_aload_n (k := 0) (by decide +kernel) rfl) (
  e_more (s_getI (c := 5) (j := 13) (idx := 170) (by decide +kernel) (by decide) (by decide) rfl wd_1362) (
  e_more (e_call0 (s_callV (c := 5) (idx := 127) k_X5_doLend (by decide +kernel) cl_X5_doLend (by decide) rfl wd_1464 wd_1466 wd_31 (by decide) (e_sf_rec rfl))) (
  e_more (s_jret (by decide +kernel) rfl) (
  e_more (s_aload_n (k := 0) (by decide +kernel) rfl) (
  e_more (s_aload_n (k := 0) (by decide +kernel) rfl) (
  e_more (s_getI (c := 5) (j := 12) (idx := 167) (by decide +kernel) (by decide) (by decide) rfl wd_1361) (
  e_more (e_call0 (s_callV (c := 5) (idx := 133) k_X5_doBack (by decide +kernel) cl_X5_doBack (by decide) rfl wd_1476 wd_1478 wd_33 (by decide) (e_sf_rec rfl))) (
  e_more (s_jret (by decide +kernel) rfl) (
  e_more (s_aload_n (k := 0) (by decide +kernel) rfl) (
  e_more (s_aload_n (k := 0) (by decide +kernel) rfl) (
  e_more (s_getI (c := 5) (j := 12) (idx := 167) (by decide +kernel) (by decide) (by decide) rfl wd_1361) (
  e_more (s_aload_n (k := 0) (by decide +kernel) rfl) (
  e_more (s_getI (c := 5) (j := 13) (idx := 170) (by decide +kernel) (by decide) (by decide) rfl wd_1362) (
  e_more (e_call0 (s_callV (c := 5) (idx := 148) k_X5_doTeach (by decide +kernel) cl_X5_doTeach (by decide) rfl wd_1542 wd_1544 wd_42 (by decide) (e_sf_rec rfl))) (
  e_more (s_jret (by decide +kernel) rfl) (
  e_more (s_aload_n (k := 0) (by decide +kernel) rfl) (
  e_more (s_aload_n (k := 0) (by decide +kernel) rfl) (
  e_more (s_getI (c := 5) (j := 12) (idx := 167) (by decide +kernel) (by decide) (by decide) rfl wd_1361) (
  e_more (e_call0 (s_callV (c := 5) (idx := 154) k_X5_doMarch (by decide +kernel) cl_X5_doMarch (by decide) rfl wd_1564 wd_1566 wd_45 (by decide) (e_sf_rec rfl))) (
  e_more (s_jret (by decide +kernel) rfl) (
  e_more (s_aload_n (k := 0) (by decide +kernel) rfl) (
  e_more (s_aload_n (k := 0) (by decide +kernel) rfl) (
  e_more (s_getI (c := 5) (j := 12) (idx := 167) (by decide +kernel) (by decide) (by decide) rfl wd_1361) (
  e_more (e_call0 (s_callV (c := 5) (idx := 139) k_X5_doMend (by decide +kernel) cl_X5_doMend (by decide) rfl wd_1496 wd_1498 wd_36 (by decide) (e_sf_rec rfl))) (
  e_more (s_jret (by decide +kernel) rfl) (
  e_more (s_aload_n (k := 0) (by decide +kernel) rfl) (
  e_more (s_iconst (n := 1) (v := 1) (by decide +kernel) (by decide)) (
  e_more (e_call0 (s_callV (c := 5) (idx := 142) k_X5_doPass (by decide +kernel) cl_X5_doPass (by decide) rfl wd_1512 wd_1514 wd_37 (by decide) (e_sf_rec rfl))) (
  e_more (s_jret (by decide +kernel) rfl) (
  e_no_more))))))))))))))))))))))))))))))))))))
def w_X5_does : eW := e_sf 13 (e_rn tb_X5_does (iL i_X5_does) 0 0)
theorem k_X5_does : e_OK e_rf i_X5_does 0 0 w_X5_does := k_sf (k_rn (own := RX5) ⟨by decide +kernel, rfl⟩ st_X5_does)
abbrev i_X5_readText : eI := (yX5_readText, cX5_readText, 3, (some .boolean), 8)
theorem cl_X5_readText : e_Cl i_X5_readText 1 := ⟨wd_1604, wd_82, ⟨by decide, by decide⟩, by decide +kernel, by decide⟩
def tb_X5_readText_0 : eTb := [(0, t_ldO 0 1 0), (1, t_push (.inl 0) 1 1), (2, t_putI 5 10 2), (5, t_ldO 0 1 5), (6, t_push (.inl 0) 1 6), (7, t_putI 5 14 7), (10, t_ldO 0 1 10), (11, t_call0 1 w_X5_readPart 11), (14, t_stI 2 1 14), (15, t_ldI 2 1 15), (16, t_if (fun a => a = 0) 85 16), (19, t_ldI 1 1 19), (20, t_if (fun a => a = 0) 37 20), (23, t_ldO 0 1 23), (24, t_call0 1 w_X5_errorOfPart 24), (27, t_if (fun a => a ≤ 0) 32 27), (30, t_push (.inl 1) 1 30), (31, t_zret), (32, t_ldO 0 1 32), (33, t_call0 1 w_X5_does 33), (36, t_pop 36), (37, t_ldO 0 1 37), (38, t_dup 38), (39, t_getI 5 14 39), (42, t_push (.inl 1) 1 42), (43, t_ii (fun a b => a + b) 43), (44, t_putI 5 14 44), (47, t_ldO 0 1 47), (48, t_getI 5 10 48), (51, t_ldO 0 1 51), (52, t_getI 5 7 52), (55, t_icn (fun a b => a = b) 60 55), (58, t_push (.inl 1) 1 58), (59, t_zret), (60, t_ldO 0 1 60), (61, t_push (.inl 59) 2 61), (63, t_call0 2 w_X5_takes 63), (66, t_if (fun a => a = 0) 80 66), (69, t_ldO 0 1 69), (70, t_call0 1 w_X5_readPart 70)]
theorem st_X5_readText_0 : ∀ x ∈ tb_X5_readText_0, e_Sd e_rf RX5 i_X5_readText x.1 x.2 :=
  e_more (s_aload_n (k := 0) (by decide +kernel) rfl) (
  e_more (s_iconst (n := 0) (v := 0) (by decide +kernel) (by decide)) (
  e_more (s_putI (c := 5) (j := 10) (idx := 160) (by decide +kernel) (by decide) (by decide) rfl rfl wd_1359) (
  e_more (s_aload_n (k := 0) (by decide +kernel) rfl) (
  e_more (s_iconst (n := 0) (v := 0) (by decide +kernel) (by decide)) (
  e_more (s_putI (c := 5) (j := 14) (idx := 188) (by decide +kernel) (by decide) (by decide) rfl rfl wd_1363) (
  e_more (s_aload_n (k := 0) (by decide +kernel) rfl) (
  e_more (e_call0 (s_callV (c := 5) (idx := 191) k_X5_readPart (by decide +kernel) cl_X5_readPart (by decide) rfl wd_1605 wd_1607 wd_50 (by decide) (e_sf_rec rfl))) (
  e_more (s_istore_n (k := 2) (by decide +kernel) rfl (by decide)) (
  e_more (s_iload_n (k := 2) (by decide +kernel) rfl) (
  e_more (s_if_eq (off := 69) (by decide +kernel) (by decide)) (
  e_more (s_iload_n (k := 1) (by decide +kernel) rfl) (
  e_more (s_if_eq (off := 17) (by decide +kernel) (by decide)) (
  e_more (s_aload_n (k := 0) (by decide +kernel) rfl) (
  e_more (e_call0 (s_callV (c := 5) (idx := 194) k_X5_errorOfPart (by decide +kernel) cl_X5_errorOfPart (by decide) rfl wd_1629 wd_1631 wd_56 (by decide) (e_sf_rec rfl))) (
  e_more (s_if_le (off := 5) (by decide +kernel) (by decide)) (
  e_more (s_iconst (n := 1) (v := 1) (by decide +kernel) (by decide)) (
  e_more (s_zret (by decide +kernel) rfl) (
  e_more (s_aload_n (k := 0) (by decide +kernel) rfl) (
  e_more (e_call0 (s_callV (c := 5) (idx := 198) k_X5_does (by decide +kernel) cl_X5_does (by decide) rfl wd_1633 wd_1635 wd_57 (by decide) (e_sf_rec rfl))) (
  e_more (s_pop (by decide +kernel)) (
  e_more (s_aload_n (k := 0) (by decide +kernel) rfl) (
  e_more (s_dup (by decide +kernel)) (
  e_more (s_getI (c := 5) (j := 14) (idx := 188) (by decide +kernel) (by decide) (by decide) rfl wd_1363) (
  e_more (s_iconst (n := 1) (v := 1) (by decide +kernel) (by decide)) (
  e_more (s_iadd (by decide +kernel)) (
  e_more (s_putI (c := 5) (j := 14) (idx := 188) (by decide +kernel) (by decide) (by decide) rfl rfl wd_1363) (
  e_more (s_aload_n (k := 0) (by decide +kernel) rfl) (
  e_more (s_getI (c := 5) (j := 10) (idx := 160) (by decide +kernel) (by decide) (by decide) rfl wd_1359) (
  e_more (s_aload_n (k := 0) (by decide +kernel) rfl) (
  e_more (s_getI (c := 5) (j := 7) (idx := 157) (by decide +kernel) (by decide) (by decide) rfl wd_1356) (
  e_more (s_ic_ne (off := 5) (by decide +kernel) (by decide)) (
  e_more (s_iconst (n := 1) (v := 1) (by decide +kernel) (by decide)) (
  e_more (s_zret (by decide +kernel) rfl) (
  e_more (s_aload_n (k := 0) (by decide +kernel) rfl) (
  e_more (s_bipush (n := 59) (v := 59) (by decide +kernel) (by decide)) (
  e_more (e_call0 (s_callV (c := 5) (idx := 176) k_X5_takes (by decide +kernel) cl_X5_takes (by decide) rfl wd_1613 wd_1615 wd_52 (by decide) (e_sf_rec rfl))) (
  e_more (s_if_eq (off := 14) (by decide +kernel) (by decide)) (
  e_more (s_aload_n (k := 0) (by decide +kernel) rfl) (
  e_more (e_call0 (s_callV (c := 5) (idx := 191) k_X5_readPart (by decide +kernel) cl_X5_readPart (by decide) rfl wd_1605 wd_1607 wd_50 (by decide) (e_sf_rec rfl))) (
  e_no_more))))))))))))))))))))))))))))))))))))))))
def tb_X5_readText_1 : eTb := [(73, t_if (fun a => a = 0) 80 73), (76, t_push (.inl 1) 1 76), (77, t_goto 81), (80, t_push (.inl 0) 1 80), (81, t_stI 2 1 81), (82, t_goto 15), (85, t_push (.inl 0) 1 85), (86, t_zret)]
theorem st_X5_readText_1 : ∀ x ∈ tb_X5_readText_1, e_Sd e_rf RX5 i_X5_readText x.1 x.2 :=
  e_more (s_if_eq (off := 7) (by decide +kernel) (by decide)) (
  e_more (s_iconst (n := 1) (v := 1) (by decide +kernel) (by decide)) (
  e_more (s_goto (off := 4) (by decide +kernel) (by decide)) (
  e_more (s_iconst (n := 0) (v := 0) (by decide +kernel) (by decide)) (
  e_more (s_istore_n (k := 2) (by decide +kernel) rfl (by decide)) (
  e_more (s_goto (off := (-67)) (by decide +kernel) (by decide)) (
  e_more (s_iconst (n := 0) (v := 0) (by decide +kernel) (by decide)) (
  e_more (s_zret (by decide +kernel) rfl) (
  e_no_more))))))))
def tb_X5_readText : eTb := tb_X5_readText_0 ++ tb_X5_readText_1
theorem st_X5_readText : ∀ x ∈ tb_X5_readText, e_Sd e_rf RX5 i_X5_readText x.1 x.2 := e_app (st_X5_readText_0) st_X5_readText_1
def w_X5_readText : eW := e_sf 13 (e_rn tb_X5_readText (iL i_X5_readText) 0 0)
theorem k_X5_readText : e_OK e_rf i_X5_readText 0 0 w_X5_readText := k_sf (k_rn (own := RX5) ⟨by decide +kernel, rfl⟩ st_X5_readText)
abbrev i_X5_firstError : eI := (yX5_firstError, cX5_firstError, 1, (some .int), 9)
theorem cl_X5_firstError : e_Cl i_X5_firstError 0 := ⟨wd_1600, wd_82, ⟨by decide, by decide⟩, by decide +kernel, by decide⟩
def tb_X5_firstError : eTb := [(0, t_ldO 0 1 0), (1, t_push (.inl 0) 1 1), (2, t_putI 5 8 2), (5, t_ldO 0 1 5), (6, t_push (.inl 0) 1 6), (7, t_call0 2 w_X5_readText 7), (10, t_if (fun a => a = 0) 20 10), (13, t_ldO 0 1 13), (14, t_getI 5 7 14), (17, t_goto 24), (20, t_ldO 0 1 20), (21, t_getI 5 10 21), (24, t_jret)]
theorem st_X5_firstError : ∀ x ∈ tb_X5_firstError, e_Sd e_rf RX5 i_X5_firstError x.1 x.2 :=
  e_more (s_aload_n (k := 0) (by decide +kernel) rfl) (
  e_more (s_iconst (n := 0) (v := 0) (by decide +kernel) (by decide)) (
  e_more (s_putI (c := 5) (j := 8) (idx := 28) (by decide +kernel) (by decide) (by decide) rfl rfl wd_1357) (
  e_more (s_aload_n (k := 0) (by decide +kernel) rfl) (
  e_more (s_iconst (n := 0) (v := 0) (by decide +kernel) (by decide)) (
  e_more (e_call0 (s_callV (c := 5) (idx := 201) k_X5_readText (by decide +kernel) cl_X5_readText (by decide) rfl wd_1601 wd_1603 wd_49 (by decide) (e_sf_rec rfl))) (
  e_more (s_if_eq (off := 10) (by decide +kernel) (by decide)) (
  e_more (s_aload_n (k := 0) (by decide +kernel) rfl) (
  e_more (s_getI (c := 5) (j := 7) (idx := 157) (by decide +kernel) (by decide) (by decide) rfl wd_1356) (
  e_more (s_goto (off := 7) (by decide +kernel) (by decide)) (
  e_more (s_aload_n (k := 0) (by decide +kernel) rfl) (
  e_more (s_getI (c := 5) (j := 10) (idx := 160) (by decide +kernel) (by decide) (by decide) rfl wd_1359) (
  e_more (s_jret (by decide +kernel) rfl) (
  e_no_more)))))))))))))
def w_X5_firstError : eW := e_sf 13 (e_rn tb_X5_firstError (iL i_X5_firstError) 0 0)
theorem k_X5_firstError : e_OK e_rf i_X5_firstError 0 0 w_X5_firstError := k_sf (k_rn (own := RX5) ⟨by decide +kernel, rfl⟩ st_X5_firstError)
abbrev i_X5_work : eI := (yX5_work, cX5_work, 2, (some .int), 9)
theorem cl_X5_work : e_Cl i_X5_work 0 := ⟨wd_1640, wd_82, ⟨by decide, by decide⟩, by decide +kernel, by decide⟩
def tb_X5_work : eTb := [(0, t_ldO 0 1 0), (1, t_ldO 0 1 1), (2, t_push (.inl 0) 1 2), (3, t_call0 2 w_X5_readText 3), (6, t_if (fun a => a = 0) 13 6), (9, t_push (.inl 0) 1 9), (10, t_goto 14), (13, t_push (.inl 1) 1 13), (14, t_call0 2 w_X5_holds 14), (17, t_ifn (fun a => a = 0) 22 17), (20, t_push (.inl 0) 1 20), (21, t_jret), (22, t_ldO 0 1 22), (23, t_call0 1 w_X5_save 23), (26, t_ldO 0 1 26), (27, t_push (.inl 1) 1 27), (28, t_call0 2 w_X5_readText 28), (31, t_stI 1 1 31), (32, t_ldO 0 1 32), (33, t_push (.inl 0) 1 33), (34, t_putI 5 7 34), (37, t_ldI 1 1 37), (38, t_if (fun a => a = 0) 48 38), (41, t_ldO 0 1 41), (42, t_getI 5 14 42), (45, t_goto 49), (48, t_push (.inl 0) 1 48), (49, t_jret)]
theorem st_X5_work : ∀ x ∈ tb_X5_work, e_Sd e_rf RX5 i_X5_work x.1 x.2 :=
  e_more (s_aload_n (k := 0) (by decide +kernel) rfl) (
  e_more (s_aload_n (k := 0) (by decide +kernel) rfl) (
  e_more (s_iconst (n := 0) (v := 0) (by decide +kernel) (by decide)) (
  e_more (e_call0 (s_callV (c := 5) (idx := 201) k_X5_readText (by decide +kernel) cl_X5_readText (by decide) rfl wd_1601 wd_1603 wd_49 (by decide) (e_sf_rec rfl))) (
  e_more (s_if_eq (off := 7) (by decide +kernel) (by decide)) (
  e_more (s_iconst (n := 0) (v := 0) (by decide +kernel) (by decide)) (
  e_more (s_goto (off := 4) (by decide +kernel) (by decide)) (
  e_more (s_iconst (n := 1) (v := 1) (by decide +kernel) (by decide)) (
  e_more (e_call0 (s_callV (c := 5) (idx := 118) k_X5_holds (by decide +kernel) cl_X5_holds (by decide) rfl wd_1409 wd_1411 wd_20 (by decide) (e_sf_rec rfl))) (
  e_more (s_if_ne (off := 5) (by decide +kernel) (by decide)) (
  e_more (s_iconst (n := 0) (v := 0) (by decide +kernel) (by decide)) (
  e_more (s_jret (by decide +kernel) rfl) (
  e_more (s_aload_n (k := 0) (by decide +kernel) rfl) (
  e_more (e_call0 (s_callV (c := 5) (idx := 121) k_X5_save (by decide +kernel) cl_X5_save (by decide) rfl wd_1413 wd_1415 wd_21 (by decide) (e_sf_rec rfl))) (
  e_more (s_aload_n (k := 0) (by decide +kernel) rfl) (
  e_more (s_iconst (n := 1) (v := 1) (by decide +kernel) (by decide)) (
  e_more (e_call0 (s_callV (c := 5) (idx := 201) k_X5_readText (by decide +kernel) cl_X5_readText (by decide) rfl wd_1601 wd_1603 wd_49 (by decide) (e_sf_rec rfl))) (
  e_more (s_istore_n (k := 1) (by decide +kernel) rfl (by decide)) (
  e_more (s_aload_n (k := 0) (by decide +kernel) rfl) (
  e_more (s_iconst (n := 0) (v := 0) (by decide +kernel) (by decide)) (
  e_more (s_putI (c := 5) (j := 7) (idx := 157) (by decide +kernel) (by decide) (by decide) rfl rfl wd_1356) (
  e_more (s_iload_n (k := 1) (by decide +kernel) rfl) (
  e_more (s_if_eq (off := 10) (by decide +kernel) (by decide)) (
  e_more (s_aload_n (k := 0) (by decide +kernel) rfl) (
  e_more (s_getI (c := 5) (j := 14) (idx := 188) (by decide +kernel) (by decide) (by decide) rfl wd_1363) (
  e_more (s_goto (off := 4) (by decide +kernel) (by decide)) (
  e_more (s_iconst (n := 0) (v := 0) (by decide +kernel) (by decide)) (
  e_more (s_jret (by decide +kernel) rfl) (
  e_no_more))))))))))))))))))))))))))))
def w_X5_work : eW := e_sf 13 (e_rn tb_X5_work (iL i_X5_work) 0 0)
theorem k_X5_work : e_OK e_rf i_X5_work 0 0 w_X5_work := k_sf (k_rn (own := RX5) ⟨by decide +kernel, rfl⟩ st_X5_work)
abbrev i_X5_lengthOfName : eI := (yX5_lengthOfName, cX5_lengthOfName, 1, (some .int), 0)
theorem cl_X5_lengthOfName : e_Cl i_X5_lengthOfName 1 := ⟨wd_1651, wd_82, ⟨by decide, by decide⟩, by decide +kernel, by decide⟩
def tb_X5_lengthOfName : eTb := [(0, t_ldI 0 1 0), (1, t_ifn (fun a => a = 0) 9 1), (4, t_push (.inl 6) 2 4), (6, t_goto 20), (9, t_ldI 0 1 9), (10, t_push (.inl 2) 1 10), (11, t_icn (fun a b => a = b) 19 11), (14, t_push (.inl 8) 2 14), (16, t_goto 20), (19, t_push (.inl 4) 1 19), (20, t_jret)]
theorem st_X5_lengthOfName : ∀ x ∈ tb_X5_lengthOfName, e_Sd e_rf RX5 i_X5_lengthOfName x.1 x.2 :=
  e_more (s_iload_n (k := 0) (by decide +kernel) rfl) (
  e_more (s_if_ne (off := 8) (by decide +kernel) (by decide)) (
  e_more (s_bipush (n := 6) (v := 6) (by decide +kernel) (by decide)) (
  e_more (s_goto (off := 14) (by decide +kernel) (by decide)) (
  e_more (s_iload_n (k := 0) (by decide +kernel) rfl) (
  e_more (s_iconst (n := 2) (v := 2) (by decide +kernel) (by decide)) (
  e_more (s_ic_ne (off := 8) (by decide +kernel) (by decide)) (
  e_more (s_bipush (n := 8) (v := 8) (by decide +kernel) (by decide)) (
  e_more (s_goto (off := 4) (by decide +kernel) (by decide)) (
  e_more (s_iconst (n := 4) (v := 4) (by decide +kernel) (by decide)) (
  e_more (s_jret (by decide +kernel) rfl) (
  e_no_more)))))))))))
def w_X5_lengthOfName : eW := e_rn tb_X5_lengthOfName (iL i_X5_lengthOfName) 0 0
theorem k_X5_lengthOfName : e_OK e_rf i_X5_lengthOfName 0 0 w_X5_lengthOfName := k_rn (own := RX5) ⟨by decide +kernel, rfl⟩ st_X5_lengthOfName
abbrev i_X5_letterOf : eI := (yX5_letterOf, cX5_letterOf, 4, (some .int), 1)
theorem cl_X5_letterOf : e_Cl i_X5_letterOf 2 := ⟨wd_1654, wd_82, ⟨by decide, by decide⟩, by decide +kernel, by decide⟩
def tb_X5_letterOf : eTb := [(0, t_ldI 0 1 0), (1, t_ifn (fun a => a = 0) 10 1), (4, t_push (.inr (.inl 109330312357236)) 3 4), (7, t_goto 35), (10, t_ldI 0 1 10), (11, t_push (.inl 1) 1 11), (12, t_icn (fun a b => a = b) 21 12), (15, t_push (.inr (.inl 1752134254)) 3 15), (18, t_goto 35), (21, t_ldI 0 1 21), (22, t_push (.inl 2) 1 22), (23, t_icn (fun a b => a = b) 32 23), (26, t_push (.inr (.inl 7089073085708463717)) 3 26), (29, t_goto 35), (32, t_push (.inr (.inl 1953849953)) 3 32), (35, t_stL 2 1 35), (36, t_ldL 2 1 36), (37, t_push (.inl 8) 2 37), (39, t_ldI 0 1 39), (40, t_call0 1 w_X5_lengthOfName 40), (43, t_push (.inl 1) 1 43), (44, t_ii (fun a b => a - b) 44), (45, t_ldI 1 1 45), (46, t_ii (fun a b => a - b) 46), (47, t_ii (fun a b => a * b) 47), (48, t_lsh (fun a b => a >>> (b.toInt64 &&& 63)) 48), (49, t_push (.inr (.inl 255)) 3 49), (52, t_ll (fun a b => .inr (.inl (a &&& b))) 52), (53, t_l1 (fun a => .inl a.toInt32) 53), (54, t_jret)]
theorem st_X5_letterOf : ∀ x ∈ tb_X5_letterOf, e_Sd e_rf RX5 i_X5_letterOf x.1 x.2 :=
  e_more (s_iload_n (k := 0) (by decide +kernel) rfl) (
  e_more (s_if_ne (off := 9) (by decide +kernel) (by decide)) (
  e_more (s_ldc2 (i := 205) (v := 109330312357236) (by decide +kernel) wd_1655) (
  e_more (s_goto (off := 28) (by decide +kernel) (by decide)) (
  e_more (s_iload_n (k := 0) (by decide +kernel) rfl) (
  e_more (s_iconst (n := 1) (v := 1) (by decide +kernel) (by decide)) (
  e_more (s_ic_ne (off := 9) (by decide +kernel) (by decide)) (
  e_more (s_ldc2 (i := 207) (v := 1752134254) (by decide +kernel) wd_1656) (
  e_more (s_goto (off := 17) (by decide +kernel) (by decide)) (
  e_more (s_iload_n (k := 0) (by decide +kernel) rfl) (
  e_more (s_iconst (n := 2) (v := 2) (by decide +kernel) (by decide)) (
  e_more (s_ic_ne (off := 9) (by decide +kernel) (by decide)) (
  e_more (s_ldc2 (i := 209) (v := 7089073085708463717) (by decide +kernel) wd_1657) (
  e_more (s_goto (off := 6) (by decide +kernel) (by decide)) (
  e_more (s_ldc2 (i := 211) (v := 1953849953) (by decide +kernel) wd_1658) (
  e_more (s_lstore_n (k := 2) (by decide +kernel) rfl (by decide)) (
  e_more (s_lload_n (k := 2) (by decide +kernel) rfl) (
  e_more (s_bipush (n := 8) (v := 8) (by decide +kernel) (by decide)) (
  e_more (s_iload_n (k := 0) (by decide +kernel) rfl) (
  e_more (e_call0 (s_callS (idx := 213) k_X5_lengthOfName (by decide +kernel) cl_X5_lengthOfName wd_1649 wd_1650 (by decide))) (
  e_more (s_iconst (n := 1) (v := 1) (by decide +kernel) (by decide)) (
  e_more (s_isub (by decide +kernel)) (
  e_more (s_iload_n (k := 1) (by decide +kernel) rfl) (
  e_more (s_isub (by decide +kernel)) (
  e_more (s_imul (by decide +kernel)) (
  e_more (s_lshr (by decide +kernel)) (
  e_more (s_ldc2 (i := 216) (v := 255) (by decide +kernel) wd_1659) (
  e_more (s_land (by decide +kernel)) (
  e_more (s_l2i (by decide +kernel)) (
  e_more (s_jret (by decide +kernel) rfl) (
  e_no_more))))))))))))))))))))))))))))))
def w_X5_letterOf : eW := e_rn tb_X5_letterOf (iL i_X5_letterOf) 0 0
theorem k_X5_letterOf : e_OK e_rf i_X5_letterOf 0 0 w_X5_letterOf := k_rn (own := RX5) ⟨by decide +kernel, rfl⟩ st_X5_letterOf
abbrev i_X5_charOf : eI := (yX5_charOf, cX5_charOf, 7, (some .int), 5)
theorem cl_X5_charOf : e_Cl i_X5_charOf 2 := ⟨wd_1648, wd_82, ⟨by decide, by decide⟩, by decide +kernel, by decide⟩
def tb_X5_charOf_0 : eTb := [(0, t_ldO 0 1 0), (1, t_ldI 1 1 1), (2, t_call0 2 w_X5_lineUp 2), (5, t_pop 5), (6, t_ldI 2 1 6), (7, t_stI 3 1 7), (8, t_push (.inl 0) 1 8), (9, t_stI 4 2 9), (11, t_ldI 4 2 11), (13, t_push (.inl 4) 1 13), (14, t_ic (fun a b => b ≤ a) 119 14), (17, t_ldI 1 1 17), (18, t_ldI 4 2 18), (20, t_call0 2 w_X5_kindFor 20), (23, t_stI 5 2 23), (25, t_ldI 5 2 25), (27, t_call0 1 w_X5_lengthOfName 27), (30, t_stI 6 2 30), (32, t_ldI 3 1 32), (33, t_ldI 6 2 33), (35, t_ic (fun a b => b ≤ a) 45 35), (38, t_ldI 5 2 38), (40, t_ldI 3 1 40), (41, t_call0 2 w_X5_letterOf 41), (44, t_jret), (45, t_ldI 3 1 45), (46, t_ldI 6 2 46), (48, t_icn (fun a b => a = b) 54 48), (51, t_push (.inl 58) 2 51), (53, t_jret), (54, t_ldI 3 1 54), (55, t_ldI 6 2 55), (57, t_push (.inl 1) 1 57), (58, t_ii (fun a b => a + b) 58), (59, t_icn (fun a b => a = b) 89 59), (62, t_ldO 0 1 62), (63, t_getR e_rf 5 9 63), (66, t_ldI 4 2 66), (68, t_iald 68), (69, t_push (.inl (-1)) 1 69)]
theorem st_X5_charOf_0 : ∀ x ∈ tb_X5_charOf_0, e_Sd e_rf RX5 i_X5_charOf x.1 x.2 :=
  e_more (s_aload_n (k := 0) (by decide +kernel) rfl) (
  e_more (s_iload_n (k := 1) (by decide +kernel) rfl) (
  e_more (e_call0 (s_callV (c := 5) (idx := 76) k_X5_lineUp (by decide +kernel) cl_X5_lineUp (by decide) rfl wd_1572 wd_1574 wd_47 (by decide) (e_sf_rec rfl))) (
  e_more (s_pop (by decide +kernel)) (
  e_more (s_iload_n (k := 2) (by decide +kernel) rfl) (
  e_more (s_istore_n (k := 3) (by decide +kernel) rfl (by decide)) (
  e_more (s_iconst (n := 0) (v := 0) (by decide +kernel) (by decide)) (
  e_more (s_istore (by decide +kernel) (by decide)) (
  e_more (s_iload (by decide +kernel)) (
  e_more (s_iconst (n := 4) (v := 4) (by decide +kernel) (by decide)) (
  e_more (s_ic_ge (off := 105) (by decide +kernel) (by decide)) (
  e_more (s_iload_n (k := 1) (by decide +kernel) rfl) (
  e_more (s_iload (by decide +kernel)) (
  e_more (e_call0 (s_callS (idx := 64) k_X5_kindFor (by decide +kernel) cl_X5_kindFor wd_1580 wd_1581 (by decide))) (
  e_more (s_istore (by decide +kernel) (by decide)) (
  e_more (s_iload (by decide +kernel)) (
  e_more (e_call0 (s_callS (idx := 213) k_X5_lengthOfName (by decide +kernel) cl_X5_lengthOfName wd_1649 wd_1650 (by decide))) (
  e_more (s_istore (by decide +kernel) (by decide)) (
  e_more (s_iload_n (k := 3) (by decide +kernel) rfl) (
  e_more (s_iload (by decide +kernel)) (
  e_more (s_ic_ge (off := 10) (by decide +kernel) (by decide)) (
  e_more (s_iload (by decide +kernel)) (
  e_more (s_iload_n (k := 3) (by decide +kernel) rfl) (
  e_more (e_call0 (s_callS (idx := 218) k_X5_letterOf (by decide +kernel) cl_X5_letterOf wd_1652 wd_1653 (by decide))) (
  e_more (s_jret (by decide +kernel) rfl) (
  e_more (s_iload_n (k := 3) (by decide +kernel) rfl) (
  e_more (s_iload (by decide +kernel)) (
  e_more (s_ic_ne (off := 6) (by decide +kernel) (by decide)) (
  e_more (s_bipush (n := 58) (v := 58) (by decide +kernel) (by decide)) (
  e_more (s_jret (by decide +kernel) rfl) (
  e_more (s_iload_n (k := 3) (by decide +kernel) rfl) (
  e_more (s_iload (by decide +kernel)) (
  e_more (s_iconst (n := 1) (v := 1) (by decide +kernel) (by decide)) (
  e_more (s_iadd (by decide +kernel)) (
  e_more (s_ic_ne (off := 30) (by decide +kernel) (by decide)) (
  e_more (s_aload_n (k := 0) (by decide +kernel) rfl) (
  e_more (s_getR (c := 5) (j := 9) (idx := 25) (by decide +kernel) (by decide) (by decide) rfl wd_1358) (
  e_more (s_iload (by decide +kernel)) (
  e_more (s_iald (by decide +kernel)) (
  e_more (s_iconst (n := (-1)) (v := (-1)) (by decide +kernel) (by decide)) (
  e_no_more))))))))))))))))))))))))))))))))))))))))
def tb_X5_charOf_1 : eTb := [(70, t_icn (fun a b => a = b) 78 70), (73, t_push (.inl 45) 2 73), (75, t_goto 88), (78, t_push (.inl 48) 2 78), (80, t_ldO 0 1 80), (81, t_getR e_rf 5 9 81), (84, t_ldI 4 2 84), (86, t_iald 86), (87, t_ii (fun a b => a + b) 87), (88, t_jret), (89, t_ldI 3 1 89), (90, t_ldI 6 2 90), (92, t_push (.inl 2) 1 92), (93, t_ii (fun a b => a + b) 93), (94, t_icn (fun a b => a = b) 106 94), (97, t_ldI 4 2 97), (99, t_push (.inl 3) 1 99), (100, t_ic (fun a b => b ≤ a) 106 100), (103, t_push (.inl 44) 2 103), (105, t_jret), (106, t_ldI 3 1 106), (107, t_ldI 6 2 107), (109, t_push (.inl 3) 1 109), (110, t_ii (fun a b => a + b) 110), (111, t_ii (fun a b => a - b) 111), (112, t_stI 3 1 112), (113, t_iinc 4 1 113), (116, t_goto 11), (119, t_push (.inl (-1)) 1 119), (120, t_jret)]
theorem st_X5_charOf_1 : ∀ x ∈ tb_X5_charOf_1, e_Sd e_rf RX5 i_X5_charOf x.1 x.2 :=
  e_more (s_ic_ne (off := 8) (by decide +kernel) (by decide)) (
  e_more (s_bipush (n := 45) (v := 45) (by decide +kernel) (by decide)) (
  e_more (s_goto (off := 13) (by decide +kernel) (by decide)) (
  e_more (s_bipush (n := 48) (v := 48) (by decide +kernel) (by decide)) (
  e_more (s_aload_n (k := 0) (by decide +kernel) rfl) (
  e_more (s_getR (c := 5) (j := 9) (idx := 25) (by decide +kernel) (by decide) (by decide) rfl wd_1358) (
  e_more (s_iload (by decide +kernel)) (
  e_more (s_iald (by decide +kernel)) (
  e_more (s_iadd (by decide +kernel)) (
  e_more (s_jret (by decide +kernel) rfl) (
  e_more (s_iload_n (k := 3) (by decide +kernel) rfl) (
  e_more (s_iload (by decide +kernel)) (
  e_more (s_iconst (n := 2) (v := 2) (by decide +kernel) (by decide)) (
  e_more (s_iadd (by decide +kernel)) (
  e_more (s_ic_ne (off := 12) (by decide +kernel) (by decide)) (
  e_more (s_iload (by decide +kernel)) (
  e_more (s_iconst (n := 3) (v := 3) (by decide +kernel) (by decide)) (
  e_more (s_ic_ge (off := 6) (by decide +kernel) (by decide)) (
  e_more (s_bipush (n := 44) (v := 44) (by decide +kernel) (by decide)) (
  e_more (s_jret (by decide +kernel) rfl) (
  e_more (s_iload_n (k := 3) (by decide +kernel) rfl) (
  e_more (s_iload (by decide +kernel)) (
  e_more (s_iconst (n := 3) (v := 3) (by decide +kernel) (by decide)) (
  e_more (s_iadd (by decide +kernel)) (
  e_more (s_isub (by decide +kernel)) (
  e_more (s_istore_n (k := 3) (by decide +kernel) rfl (by decide)) (
  e_more (s_iinc (z := 1) (n := 1) (by decide +kernel) (by decide) (by decide)) (
  e_more (s_goto (off := (-105)) (by decide +kernel) (by decide)) (
  e_more (s_iconst (n := (-1)) (v := (-1)) (by decide +kernel) (by decide)) (
  e_more (s_jret (by decide +kernel) rfl) (
  e_no_more))))))))))))))))))))))))))))))
def tb_X5_charOf : eTb := tb_X5_charOf_0 ++ tb_X5_charOf_1
theorem st_X5_charOf : ∀ x ∈ tb_X5_charOf, e_Sd e_rf RX5 i_X5_charOf x.1 x.2 := e_app (st_X5_charOf_0) st_X5_charOf_1
def w_X5_charOf : eW := e_sf 13 (e_rn tb_X5_charOf (iL i_X5_charOf) 0 0)
theorem k_X5_charOf : e_OK e_rf i_X5_charOf 0 0 w_X5_charOf := k_sf (k_rn (own := RX5) ⟨by decide +kernel, rfl⟩ st_X5_charOf)
abbrev i_X5_told : eI := (yX5_told, cX5_told, 3, (some .int), 6)
theorem cl_X5_told : e_Cl i_X5_told 2 := ⟨wd_1644, wd_82, ⟨by decide, by decide⟩, by decide +kernel, by decide⟩
def tb_X5_told : eTb := [(0, t_ldO 0 1 0), (1, t_ldI 1 1 1), (2, t_call0 1 w_X5_isMarch 2), (5, t_ifn (fun a => a = 0) 12 5), (8, t_push (.inl 1) 1 8), (9, t_goto 21), (12, t_ldI 2 1 12), (13, t_if (fun a => 0 ≤ a) 20 13), (16, t_push (.inl 2) 1 16), (17, t_goto 21), (20, t_push (.inl 0) 1 20), (21, t_call0 2 w_X5_holds 21), (24, t_if (fun a => a = 0) 36 24), (27, t_ldO 0 1 27), (28, t_ldI 1 1 28), (29, t_ldI 2 1 29), (30, t_call0 3 w_X5_charOf 30), (33, t_goto 37), (36, t_push (.inl 0) 1 36), (37, t_jret)]
theorem st_X5_told : ∀ x ∈ tb_X5_told, e_Sd e_rf RX5 i_X5_told x.1 x.2 :=
  e_more (s_aload_n (k := 0) (by decide +kernel) rfl) (
  e_more (s_iload_n (k := 1) (by decide +kernel) rfl) (
  e_more (e_call0 (s_callS (idx := 111) k_X5_isMarch (by decide +kernel) cl_X5_isMarch wd_1557 wd_1558 (by decide))) (
  e_more (s_if_ne (off := 7) (by decide +kernel) (by decide)) (
  e_more (s_iconst (n := 1) (v := 1) (by decide +kernel) (by decide)) (
  e_more (s_goto (off := 12) (by decide +kernel) (by decide)) (
  e_more (s_iload_n (k := 2) (by decide +kernel) rfl) (
  e_more (s_if_ge (off := 7) (by decide +kernel) (by decide)) (
  e_more (s_iconst (n := 2) (v := 2) (by decide +kernel) (by decide)) (
  e_more (s_goto (off := 4) (by decide +kernel) (by decide)) (
  e_more (s_iconst (n := 0) (v := 0) (by decide +kernel) (by decide)) (
  e_more (e_call0 (s_callV (c := 5) (idx := 118) k_X5_holds (by decide +kernel) cl_X5_holds (by decide) rfl wd_1409 wd_1411 wd_20 (by decide) (e_sf_rec rfl))) (
  e_more (s_if_eq (off := 12) (by decide +kernel) (by decide)) (
  e_more (s_aload_n (k := 0) (by decide +kernel) rfl) (
  e_more (s_iload_n (k := 1) (by decide +kernel) rfl) (
  e_more (s_iload_n (k := 2) (by decide +kernel) rfl) (
  e_more (e_call0 (s_callV (c := 5) (idx := 221) k_X5_charOf (by decide +kernel) cl_X5_charOf (by decide) rfl wd_1645 wd_1647 wd_58 (by decide) (e_sf_rec rfl))) (
  e_more (s_goto (off := 4) (by decide +kernel) (by decide)) (
  e_more (s_iconst (n := 0) (v := 0) (by decide +kernel) (by decide)) (
  e_more (s_jret (by decide +kernel) rfl) (
  e_no_more))))))))))))))))))))
def w_X5_told : eW := e_sf 13 (e_rn tb_X5_told (iL i_X5_told) 0 0)
theorem k_X5_told : e_OK e_rf i_X5_told 0 0 w_X5_told := k_sf (k_rn (own := RX5) ⟨by decide +kernel, rfl⟩ st_X5_told)
abbrev i_X5_undo : eI := (yX5_undo, cX5_undo, 1, (some .int), 1)
theorem cl_X5_undo : e_Cl i_X5_undo 0 := ⟨wd_1663, wd_82, ⟨by decide, by decide⟩, by decide +kernel, by decide⟩
def tb_X5_undo : eTb := [(0, t_ldO 0 1 0), (1, t_ldO 0 1 1), (2, t_getI 5 2 2), (5, t_if (fun a => a ≤ 0) 12 5), (8, t_push (.inl 0) 1 8), (9, t_goto 13), (12, t_push (.inl 1) 1 12), (13, t_call0 2 w_X5_holds 13), (16, t_ifn (fun a => a = 0) 21 16), (19, t_push (.inl 0) 1 19), (20, t_jret), (21, t_ldO 0 1 21), (22, t_dup 22), (23, t_getI 5 2 23), (26, t_push (.inl 1) 1 26), (27, t_ii (fun a b => a - b) 27), (28, t_putI 5 2 28), (31, t_ldO 0 1 31), (32, t_getR e_rf 5 1 32), (35, t_push (.inl 146) 3 35), (38, t_ldO 0 1 38), (39, t_getI 5 2 39), (42, t_ii (fun a b => a * b) 42), (43, t_ldO 0 1 43), (44, t_getR e_rf 5 0 44), (47, t_push (.inl 0) 1 47), (48, t_call0 4 w_X5_copy 48), (51, t_ldO 0 1 51), (52, t_getI 5 2 52), (55, t_jret)]
theorem st_X5_undo : ∀ x ∈ tb_X5_undo, e_Sd e_rf RX5 i_X5_undo x.1 x.2 :=
  e_more (s_aload_n (k := 0) (by decide +kernel) rfl) (
  e_more (s_aload_n (k := 0) (by decide +kernel) rfl) (
  e_more (s_getI (c := 5) (j := 2) (idx := 36) (by decide +kernel) (by decide) (by decide) rfl wd_1351) (
  e_more (s_if_le (off := 7) (by decide +kernel) (by decide)) (
  e_more (s_iconst (n := 0) (v := 0) (by decide +kernel) (by decide)) (
  e_more (s_goto (off := 4) (by decide +kernel) (by decide)) (
  e_more (s_iconst (n := 1) (v := 1) (by decide +kernel) (by decide)) (
  e_more (e_call0 (s_callV (c := 5) (idx := 118) k_X5_holds (by decide +kernel) cl_X5_holds (by decide) rfl wd_1409 wd_1411 wd_20 (by decide) (e_sf_rec rfl))) (
  e_more (s_if_ne (off := 5) (by decide +kernel) (by decide)) (
  e_more (s_iconst (n := 0) (v := 0) (by decide +kernel) (by decide)) (
  e_more (s_jret (by decide +kernel) rfl) (
  e_more (s_aload_n (k := 0) (by decide +kernel) rfl) (
  e_more (s_dup (by decide +kernel)) (
  e_more (s_getI (c := 5) (j := 2) (idx := 36) (by decide +kernel) (by decide) (by decide) rfl wd_1351) (
  e_more (s_iconst (n := 1) (v := 1) (by decide +kernel) (by decide)) (
  e_more (s_isub (by decide +kernel)) (
  e_more (s_putI (c := 5) (j := 2) (idx := 36) (by decide +kernel) (by decide) (by decide) rfl rfl wd_1351) (
  e_more (s_aload_n (k := 0) (by decide +kernel) rfl) (
  e_more (s_getR (c := 5) (j := 1) (idx := 13) (by decide +kernel) (by decide) (by decide) rfl wd_1350) (
  e_more (s_sipush (n := 146) (v := 146) (by decide +kernel) (by decide)) (
  e_more (s_aload_n (k := 0) (by decide +kernel) rfl) (
  e_more (s_getI (c := 5) (j := 2) (idx := 36) (by decide +kernel) (by decide) (by decide) rfl wd_1351) (
  e_more (s_imul (by decide +kernel)) (
  e_more (s_aload_n (k := 0) (by decide +kernel) rfl) (
  e_more (s_getR (c := 5) (j := 0) (idx := 7) (by decide +kernel) (by decide) (by decide) rfl wd_1349) (
  e_more (s_iconst (n := 0) (v := 0) (by decide +kernel) (by decide)) (
  e_more (e_call0 (s_callS (idx := 39) k_X5_copy (by decide +kernel) cl_X5_copy wd_1417 wd_1418 (by decide))) (
  e_more (s_aload_n (k := 0) (by decide +kernel) rfl) (
  e_more (s_getI (c := 5) (j := 2) (idx := 36) (by decide +kernel) (by decide) (by decide) rfl wd_1351) (
  e_more (s_jret (by decide +kernel) rfl) (
  e_no_more))))))))))))))))))))))))))))))
def w_X5_undo : eW := e_sf 13 (e_rn tb_X5_undo (iL i_X5_undo) 0 0)
theorem k_X5_undo : e_OK e_rf i_X5_undo 0 0 w_X5_undo := k_sf (k_rn (own := RX5) ⟨by decide +kernel, rfl⟩ st_X5_undo)
