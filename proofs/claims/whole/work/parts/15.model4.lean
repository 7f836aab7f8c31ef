/-! the reference, piece 4: tables and readings, by program. Own work. -/
abbrev i_X5_keep : eI := (yX5_keep, cX5_keep, 1, (some .int), 1)
theorem cl_X5_keep : e_Cl i_X5_keep 0 := ⟨wd_1667, wd_82, ⟨by decide, by decide⟩, by decide +kernel, by decide⟩
def tb_X5_keep : eTb := [(0, t_ldO 0 1 0), (1, t_push (.inl 0) 1 1), (2, t_putI 5 8 2), (5, t_ldO 0 1 5), (6, t_getR e_rf 5 0 6), (9, t_push (.inl 0) 1 9), (10, t_ldO 0 1 10), (11, t_getR e_rf 5 3 11), (14, t_push (.inl 0) 1 14), (15, t_call0 4 w_X5_copy 15), (18, t_ldO 0 1 18), (19, t_push (.inl 1) 1 19), (20, t_putN .boolean 5 4 20), (23, t_ldO 0 1 23), (24, t_getR e_rf 5 0 24), (27, t_ialc 3 1 27), (29, t_jret)]
theorem st_X5_keep : ∀ x ∈ tb_X5_keep, e_Sd e_rf RX5 i_X5_keep x.1 x.2 :=
  e_more (s_aload_n (k := 0) (by decide +kernel) rfl) (
  e_more (s_iconst (n := 0) (v := 0) (by decide +kernel) (by decide)) (
  e_more (s_putI (c := 5) (j := 8) (idx := 28) (by decide +kernel) (by decide) (by decide) rfl rfl wd_1357) (
  e_more (s_aload_n (k := 0) (by decide +kernel) rfl) (
  e_more (s_getR (c := 5) (j := 0) (idx := 7) (by decide +kernel) (by decide) (by decide) rfl wd_1349) (
  e_more (s_iconst (n := 0) (v := 0) (by decide +kernel) (by decide)) (
  e_more (s_aload_n (k := 0) (by decide +kernel) rfl) (
  e_more (s_getR (c := 5) (j := 3) (idx := 16) (by decide +kernel) (by decide) (by decide) rfl wd_1352) (
  e_more (s_iconst (n := 0) (v := 0) (by decide +kernel) (by decide)) (
  e_more (e_call0 (s_callS (idx := 39) k_X5_copy (by decide +kernel) cl_X5_copy wd_1417 wd_1418 (by decide))) (
  e_more (s_aload_n (k := 0) (by decide +kernel) rfl) (
  e_more (s_iconst (n := 1) (v := 1) (by decide +kernel) (by decide)) (
  e_more (s_putN (c := 5) (j := 4) (idx := 224) (by decide +kernel) (by decide) (by decide) rfl rfl rfl wd_1353) (
  e_more (s_aload_n (k := 0) (by decide +kernel) rfl) (
  e_more (s_getR (c := 5) (j := 0) (idx := 7) (by decide +kernel) (by decide) (by decide) rfl wd_1349) (
  e_more (s_ialc (n := 3) (x := 3) (s_iconst (n := 3) (v := 3) (by decide +kernel) (by decide)) (by decide +kernel) (by decide) (by decide)) (
  e_more (s_jret (by decide +kernel) rfl) (
  e_no_more)))))))))))))))))
def w_X5_keep : eW := e_sf 13 (e_rn tb_X5_keep (iL i_X5_keep) 0 0)
theorem k_X5_keep : e_OK e_rf i_X5_keep 0 0 w_X5_keep := k_sf (k_rn (own := RX5) ⟨by decide +kernel, rfl⟩ st_X5_keep)
abbrev i_X5_restore : eI := (yX5_restore, cX5_restore, 1, (some .int), 2)
theorem cl_X5_restore : e_Cl i_X5_restore 0 := ⟨wd_1671, wd_82, ⟨by decide, by decide⟩, by decide +kernel, by decide⟩
def tb_X5_restore : eTb := [(0, t_ldO 0 1 0), (1, t_ldO 0 1 1), (2, t_getI 5 4 2), (5, t_if (fun a => a = 0) 12 5), (8, t_push (.inl 0) 1 8), (9, t_goto 13), (12, t_push (.inl 1) 1 12), (13, t_call0 2 w_X5_holds 13), (16, t_ifn (fun a => a = 0) 21 16), (19, t_push (.inl 0) 1 19), (20, t_jret), (21, t_ldO 0 1 21), (22, t_call0 1 w_X5_save 22), (25, t_ldO 0 1 25), (26, t_getR e_rf 5 3 26), (29, t_push (.inl 0) 1 29), (30, t_ldO 0 1 30), (31, t_getR e_rf 5 0 31), (34, t_push (.inl 0) 1 34), (35, t_call0 4 w_X5_copy 35), (38, t_ldO 0 1 38), (39, t_getR e_rf 5 0 39), (42, t_ialc 3 1 42), (44, t_jret)]
theorem st_X5_restore : ∀ x ∈ tb_X5_restore, e_Sd e_rf RX5 i_X5_restore x.1 x.2 :=
  e_more (s_aload_n (k := 0) (by decide +kernel) rfl) (
  e_more (s_aload_n (k := 0) (by decide +kernel) rfl) (
  e_more (s_getI (c := 5) (j := 4) (idx := 224) (by decide +kernel) (by decide) (by decide) rfl wd_1353) (
  e_more (s_if_eq (off := 7) (by decide +kernel) (by decide)) (
  e_more (s_iconst (n := 0) (v := 0) (by decide +kernel) (by decide)) (
  e_more (s_goto (off := 4) (by decide +kernel) (by decide)) (
  e_more (s_iconst (n := 1) (v := 1) (by decide +kernel) (by decide)) (
  e_more (e_call0 (s_callV (c := 5) (idx := 118) k_X5_holds (by decide +kernel) cl_X5_holds (by decide) rfl wd_1409 wd_1411 wd_20 (by decide) (e_sf_rec rfl))) (
  e_more (s_if_ne (off := 5) (by decide +kernel) (by decide)) (
  e_more (s_iconst (n := 0) (v := 0) (by decide +kernel) (by decide)) (
  e_more (s_jret (by decide +kernel) rfl) (
  e_more (s_aload_n (k := 0) (by decide +kernel) rfl) (
  e_more (e_call0 (s_callV (c := 5) (idx := 121) k_X5_save (by decide +kernel) cl_X5_save (by decide) rfl wd_1413 wd_1415 wd_21 (by decide) (e_sf_rec rfl))) (
  e_more (s_aload_n (k := 0) (by decide +kernel) rfl) (
  e_more (s_getR (c := 5) (j := 3) (idx := 16) (by decide +kernel) (by decide) (by decide) rfl wd_1352) (
  e_more (s_iconst (n := 0) (v := 0) (by decide +kernel) (by decide)) (
  e_more (s_aload_n (k := 0) (by decide +kernel) rfl) (
  e_more (s_getR (c := 5) (j := 0) (idx := 7) (by decide +kernel) (by decide) (by decide) rfl wd_1349) (
  e_more (s_iconst (n := 0) (v := 0) (by decide +kernel) (by decide)) (
  e_more (e_call0 (s_callS (idx := 39) k_X5_copy (by decide +kernel) cl_X5_copy wd_1417 wd_1418 (by decide))) (
  e_more (s_aload_n (k := 0) (by decide +kernel) rfl) (
  e_more (s_getR (c := 5) (j := 0) (idx := 7) (by decide +kernel) (by decide) (by decide) rfl wd_1349) (
  e_more (s_ialc (n := 3) (x := 3) (s_iconst (n := 3) (v := 3) (by decide +kernel) (by decide)) (by decide +kernel) (by decide) (by decide)) (
  e_more (s_jret (by decide +kernel) rfl) (
  e_no_more))))))))))))))))))))))))
def w_X5_restore : eW := e_sf 13 (e_rn tb_X5_restore (iL i_X5_restore) 0 0)
theorem k_X5_restore : e_OK e_rf i_X5_restore 0 0 w_X5_restore := k_sf (k_rn (own := RX5) ⟨by decide +kernel, rfl⟩ st_X5_restore)
abbrev i_X5_pupilTold : eI := (yX5_pupilTold, cX5_pupilTold, 3, (some .int), 1)
theorem cl_X5_pupilTold : e_Cl i_X5_pupilTold 2 := ⟨wd_1679, wd_82, ⟨by decide, by decide⟩, by decide +kernel, by decide⟩
def tb_X5_pupilTold : eTb := [(0, t_ldI 2 1 0), (1, t_push (.inl 4) 1 1), (2, t_icn (fun a b => a = b) 16 2), (5, t_ldO 0 1 5), (6, t_ldI 1 1 6), (7, t_push (.inl 4) 1 7), (8, t_call0 3 w_X5_of 8), (11, t_push (.inl 1) 1 11), (12, t_ii (fun a b => a - b) 12), (13, t_goto 22), (16, t_ldO 0 1 16), (17, t_ldI 1 1 17), (18, t_ldI 2 1 18), (19, t_call0 3 w_X5_of 19), (22, t_jret)]
theorem st_X5_pupilTold : ∀ x ∈ tb_X5_pupilTold, e_Sd e_rf RX5 i_X5_pupilTold x.1 x.2 :=
  e_more (s_iload_n (k := 2) (by decide +kernel) rfl) (
  e_more (s_iconst (n := 4) (v := 4) (by decide +kernel) (by decide)) (
  e_more (s_ic_ne (off := 14) (by decide +kernel) (by decide)) (
  e_more (s_aload_n (k := 0) (by decide +kernel) rfl) (
  e_more (s_iload_n (k := 1) (by decide +kernel) rfl) (
  e_more (s_iconst (n := 4) (v := 4) (by decide +kernel) (by decide)) (
  e_more (e_call0 (s_callV (c := 5) (idx := 47) k_X5_of (by decide +kernel) cl_X5_of (by decide) rfl wd_1456 wd_1458 wd_29 (by decide) (e_sf_rec rfl))) (
  e_more (s_iconst (n := 1) (v := 1) (by decide +kernel) (by decide)) (
  e_more (s_isub (by decide +kernel)) (
  e_more (s_goto (off := 9) (by decide +kernel) (by decide)) (
  e_more (s_aload_n (k := 0) (by decide +kernel) rfl) (
  e_more (s_iload_n (k := 1) (by decide +kernel) rfl) (
  e_more (s_iload_n (k := 2) (by decide +kernel) rfl) (
  e_more (e_call0 (s_callV (c := 5) (idx := 47) k_X5_of (by decide +kernel) cl_X5_of (by decide) rfl wd_1456 wd_1458 wd_29 (by decide) (e_sf_rec rfl))) (
  e_more (s_jret (by decide +kernel) rfl) (
  e_no_more)))))))))))))))
def w_X5_pupilTold : eW := e_sf 13 (e_rn tb_X5_pupilTold (iL i_X5_pupilTold) 0 0)
theorem k_X5_pupilTold : e_OK e_rf i_X5_pupilTold 0 0 w_X5_pupilTold := k_sf (k_rn (own := RX5) ⟨by decide +kernel, rfl⟩ st_X5_pupilTold)
abbrev i_X5_pupilOf : eI := (yX5_pupilOf, cX5_pupilOf, 3, (some .int), 2)
theorem cl_X5_pupilOf : e_Cl i_X5_pupilOf 2 := ⟨wd_1675, wd_82, ⟨by decide, by decide⟩, by decide +kernel, by decide⟩
def tb_X5_pupilOf : eTb := [(0, t_ldO 0 1 0), (1, t_ldO 0 1 1), (2, t_ldI 1 1 2), (3, t_call0 2 w_X5_isPupil 3), (6, t_ifn (fun a => a = 0) 13 6), (9, t_push (.inl 1) 1 9), (10, t_goto 28), (13, t_ldI 2 1 13), (14, t_push (.inl 0) 1 14), (15, t_push (.inl 6) 2 15), (17, t_call0 3 w_X5_in 17), (20, t_ifn (fun a => a = 0) 27 20), (23, t_push (.inl 2) 1 23), (24, t_goto 28), (27, t_push (.inl 0) 1 27), (28, t_call0 2 w_X5_holds 28), (31, t_if (fun a => a = 0) 43 31), (34, t_ldO 0 1 34), (35, t_ldI 1 1 35), (36, t_ldI 2 1 36), (37, t_call0 3 w_X5_pupilTold 37), (40, t_goto 44), (43, t_push (.inl 0) 1 43), (44, t_jret)]
theorem st_X5_pupilOf : ∀ x ∈ tb_X5_pupilOf, e_Sd e_rf RX5 i_X5_pupilOf x.1 x.2 :=
  e_more (s_aload_n (k := 0) (by decide +kernel) rfl) (
  e_more (s_aload_n (k := 0) (by decide +kernel) rfl) (
  e_more (s_iload_n (k := 1) (by decide +kernel) rfl) (
  e_more (e_call0 (s_callV (c := 5) (idx := 99) k_X5_isPupil (by decide +kernel) cl_X5_isPupil (by decide) rfl wd_1444 wd_1446 wd_26 (by decide) (e_sf_rec rfl))) (
  e_more (s_if_ne (off := 7) (by decide +kernel) (by decide)) (
  e_more (s_iconst (n := 1) (v := 1) (by decide +kernel) (by decide)) (
  e_more (s_goto (off := 18) (by decide +kernel) (by decide)) (
  e_more (s_iload_n (k := 2) (by decide +kernel) rfl) (
  e_more (s_iconst (n := 0) (v := 0) (by decide +kernel) (by decide)) (
  e_more (s_bipush (n := 6) (v := 6) (by decide +kernel) (by decide)) (
  e_more (e_call0 (s_callS (idx := 32) k_X5_in (by decide +kernel) cl_X5_in wd_1406 wd_1407 (by decide))) (
  e_more (s_if_ne (off := 7) (by decide +kernel) (by decide)) (
  e_more (s_iconst (n := 2) (v := 2) (by decide +kernel) (by decide)) (
  e_more (s_goto (off := 4) (by decide +kernel) (by decide)) (
  e_more (s_iconst (n := 0) (v := 0) (by decide +kernel) (by decide)) (
  e_more (e_call0 (s_callV (c := 5) (idx := 118) k_X5_holds (by decide +kernel) cl_X5_holds (by decide) rfl wd_1409 wd_1411 wd_20 (by decide) (e_sf_rec rfl))) (
  e_more (s_if_eq (off := 12) (by decide +kernel) (by decide)) (
  e_more (s_aload_n (k := 0) (by decide +kernel) rfl) (
  e_more (s_iload_n (k := 1) (by decide +kernel) rfl) (
  e_more (s_iload_n (k := 2) (by decide +kernel) rfl) (
  e_more (e_call0 (s_callV (c := 5) (idx := 228) k_X5_pupilTold (by decide +kernel) cl_X5_pupilTold (by decide) rfl wd_1676 wd_1678 wd_59 (by decide) (e_sf_rec rfl))) (
  e_more (s_goto (off := 4) (by decide +kernel) (by decide)) (
  e_more (s_iconst (n := 0) (v := 0) (by decide +kernel) (by decide)) (
  e_more (s_jret (by decide +kernel) rfl) (
  e_no_more))))))))))))))))))))))))
def w_X5_pupilOf : eW := e_sf 13 (e_rn tb_X5_pupilOf (iL i_X5_pupilOf) 0 0)
theorem k_X5_pupilOf : e_OK e_rf i_X5_pupilOf 0 0 w_X5_pupilOf := k_sf (k_rn (own := RX5) ⟨by decide +kernel, rfl⟩ st_X5_pupilOf)
abbrev i_X5_instrumentTold : eI := (yX5_instrumentTold, cX5_instrumentTold, 3, (some .int), 2)
theorem cl_X5_instrumentTold : e_Cl i_X5_instrumentTold 2 := ⟨wd_1687, wd_82, ⟨by decide, by decide⟩, by decide +kernel, by decide⟩
def tb_X5_instrumentTold : eTb := [(0, t_ldI 2 1 0), (1, t_sw [(2, 32), (3, 75), (4, 41), (5, 61)] 75), (32, t_ldO 0 1 32), (33, t_ldI 1 1 33), (34, t_push (.inl 2) 1 34), (35, t_call0 3 w_X5_its 35), (38, t_push (.inl 1) 1 38), (39, t_ii (fun a b => a - b) 39), (40, t_jret), (41, t_ldO 0 1 41), (42, t_ldI 1 1 42), (43, t_push (.inl 2) 1 43), (44, t_call0 3 w_X5_its 44), (47, t_ifn (fun a => a = 0) 54 47), (50, t_push (.inl (-1)) 1 50), (51, t_goto 60), (54, t_ldO 0 1 54), (55, t_ldI 1 1 55), (56, t_push (.inl 4) 1 56), (57, t_call0 3 w_X5_its 57), (60, t_jret), (61, t_ldO 0 1 61), (62, t_ldI 1 1 62), (63, t_call0 2 w_X5_canBePlayed 63), (66, t_if (fun a => a = 0) 73 66), (69, t_push (.inl 1) 1 69), (70, t_goto 74), (73, t_push (.inl 0) 1 73), (74, t_jret), (75, t_ldO 0 1 75), (76, t_ldI 1 1 76), (77, t_ldI 2 1 77), (78, t_call0 3 w_X5_its 78), (81, t_jret)]
theorem st_X5_instrumentTold : ∀ x ∈ tb_X5_instrumentTold, e_Sd e_rf RX5 i_X5_instrumentTold x.1 x.2 :=
  e_more (s_iload_n (k := 2) (by decide +kernel) rfl) (
  e_more (s_table (dflt := 74) (lo := 2) (hi := 5) (offs := #[31, 74, 40, 60]) (len := 31) (l := [(2, 32), (3, 75), (4, 41), (5, 61)]) (by decide +kernel) (by decide +kernel) (by decide +kernel) (by decide)) (
  e_more (s_aload_n (k := 0) (by decide +kernel) rfl) (
  e_more (s_iload_n (k := 1) (by decide +kernel) rfl) (
  e_more (s_iconst (n := 2) (v := 2) (by decide +kernel) (by decide)) (
  e_more (e_call0 (s_callV (c := 5) (idx := 43) k_X5_its (by decide +kernel) cl_X5_its (by decide) rfl wd_1452 wd_1454 wd_28 (by decide) (e_sf_rec rfl))) (
  e_more (s_iconst (n := 1) (v := 1) (by decide +kernel) (by decide)) (
  e_more (s_isub (by decide +kernel)) (
  e_more (s_jret (by decide +kernel) rfl) (
  e_more (s_aload_n (k := 0) (by decide +kernel) rfl) (
  e_more (s_iload_n (k := 1) (by decide +kernel) rfl) (
  e_more (s_iconst (n := 2) (v := 2) (by decide +kernel) (by decide)) (
  e_more (e_call0 (s_callV (c := 5) (idx := 43) k_X5_its (by decide +kernel) cl_X5_its (by decide) rfl wd_1452 wd_1454 wd_28 (by decide) (e_sf_rec rfl))) (
  e_more (s_if_ne (off := 7) (by decide +kernel) (by decide)) (
  e_more (s_iconst (n := (-1)) (v := (-1)) (by decide +kernel) (by decide)) (
  e_more (s_goto (off := 9) (by decide +kernel) (by decide)) (
  e_more (s_aload_n (k := 0) (by decide +kernel) rfl) (
  e_more (s_iload_n (k := 1) (by decide +kernel) rfl) (
  e_more (s_iconst (n := 4) (v := 4) (by decide +kernel) (by decide)) (
  e_more (e_call0 (s_callV (c := 5) (idx := 43) k_X5_its (by decide +kernel) cl_X5_its (by decide) rfl wd_1452 wd_1454 wd_28 (by decide) (e_sf_rec rfl))) (
  e_more (s_jret (by decide +kernel) rfl) (
  e_more (s_aload_n (k := 0) (by decide +kernel) rfl) (
  e_more (s_iload_n (k := 1) (by decide +kernel) rfl) (
  e_more (e_call0 (s_callV (c := 5) (idx := 50) k_X5_canBePlayed (by decide +kernel) cl_X5_canBePlayed (by decide) rfl wd_1460 wd_1462 wd_30 (by decide) (e_sf_rec rfl))) (
  e_more (s_if_eq (off := 7) (by decide +kernel) (by decide)) (
  e_more (s_iconst (n := 1) (v := 1) (by decide +kernel) (by decide)) (
  e_more (s_goto (off := 4) (by decide +kernel) (by decide)) (
  e_more (s_iconst (n := 0) (v := 0) (by decide +kernel) (by decide)) (
  e_more (s_jret (by decide +kernel) rfl) (
  e_more (s_aload_n (k := 0) (by decide +kernel) rfl) (
  e_more (s_iload_n (k := 1) (by decide +kernel) rfl) (
  e_more (s_iload_n (k := 2) (by decide +kernel) rfl) (
  e_more (e_call0 (s_callV (c := 5) (idx := 43) k_X5_its (by decide +kernel) cl_X5_its (by decide) rfl wd_1452 wd_1454 wd_28 (by decide) (e_sf_rec rfl))) (
  e_more (s_jret (by decide +kernel) rfl) (
  e_no_more))))))))))))))))))))))))))))))))))
def w_X5_instrumentTold : eW := e_sf 13 (e_rn tb_X5_instrumentTold (iL i_X5_instrumentTold) 0 0)
theorem k_X5_instrumentTold : e_OK e_rf i_X5_instrumentTold 0 0 w_X5_instrumentTold := k_sf (k_rn (own := RX5) ⟨by decide +kernel, rfl⟩ st_X5_instrumentTold)
abbrev i_X5_instrumentOf : eI := (yX5_instrumentOf, cX5_instrumentOf, 3, (some .int), 3)
theorem cl_X5_instrumentOf : e_Cl i_X5_instrumentOf 2 := ⟨wd_1683, wd_82, ⟨by decide, by decide⟩, by decide +kernel, by decide⟩
def tb_X5_instrumentOf : eTb := [(0, t_ldO 0 1 0), (1, t_ldO 0 1 1), (2, t_ldI 1 1 2), (3, t_call0 2 w_X5_isInstrument 3), (6, t_ifn (fun a => a = 0) 13 6), (9, t_push (.inl 1) 1 9), (10, t_goto 27), (13, t_ldI 2 1 13), (14, t_push (.inl 0) 1 14), (15, t_push (.inl 5) 1 15), (16, t_call0 3 w_X5_in 16), (19, t_ifn (fun a => a = 0) 26 19), (22, t_push (.inl 2) 1 22), (23, t_goto 27), (26, t_push (.inl 0) 1 26), (27, t_call0 2 w_X5_holds 27), (30, t_if (fun a => a = 0) 42 30), (33, t_ldO 0 1 33), (34, t_ldI 1 1 34), (35, t_ldI 2 1 35), (36, t_call0 3 w_X5_instrumentTold 36), (39, t_goto 43), (42, t_push (.inl 0) 1 42), (43, t_jret)]
theorem st_X5_instrumentOf : ∀ x ∈ tb_X5_instrumentOf, e_Sd e_rf RX5 i_X5_instrumentOf x.1 x.2 :=
  e_more (s_aload_n (k := 0) (by decide +kernel) rfl) (
  e_more (s_aload_n (k := 0) (by decide +kernel) rfl) (
  e_more (s_iload_n (k := 1) (by decide +kernel) rfl) (
  e_more (e_call0 (s_callV (c := 5) (idx := 96) k_X5_isInstrument (by decide +kernel) cl_X5_isInstrument (by decide) rfl wd_1440 wd_1442 wd_25 (by decide) (e_sf_rec rfl))) (
  e_more (s_if_ne (off := 7) (by decide +kernel) (by decide)) (
  e_more (s_iconst (n := 1) (v := 1) (by decide +kernel) (by decide)) (
  e_more (s_goto (off := 17) (by decide +kernel) (by decide)) (
  e_more (s_iload_n (k := 2) (by decide +kernel) rfl) (
  e_more (s_iconst (n := 0) (v := 0) (by decide +kernel) (by decide)) (
  e_more (s_iconst (n := 5) (v := 5) (by decide +kernel) (by decide)) (
  e_more (e_call0 (s_callS (idx := 32) k_X5_in (by decide +kernel) cl_X5_in wd_1406 wd_1407 (by decide))) (
  e_more (s_if_ne (off := 7) (by decide +kernel) (by decide)) (
  e_more (s_iconst (n := 2) (v := 2) (by decide +kernel) (by decide)) (
  e_more (s_goto (off := 4) (by decide +kernel) (by decide)) (
  e_more (s_iconst (n := 0) (v := 0) (by decide +kernel) (by decide)) (
  e_more (e_call0 (s_callV (c := 5) (idx := 118) k_X5_holds (by decide +kernel) cl_X5_holds (by decide) rfl wd_1409 wd_1411 wd_20 (by decide) (e_sf_rec rfl))) (
  e_more (s_if_eq (off := 12) (by decide +kernel) (by decide)) (
  e_more (s_aload_n (k := 0) (by decide +kernel) rfl) (
  e_more (s_iload_n (k := 1) (by decide +kernel) rfl) (
  e_more (s_iload_n (k := 2) (by decide +kernel) rfl) (
  e_more (e_call0 (s_callV (c := 5) (idx := 231) k_X5_instrumentTold (by decide +kernel) cl_X5_instrumentTold (by decide) rfl wd_1684 wd_1686 wd_60 (by decide) (e_sf_rec rfl))) (
  e_more (s_goto (off := 4) (by decide +kernel) (by decide)) (
  e_more (s_iconst (n := 0) (v := 0) (by decide +kernel) (by decide)) (
  e_more (s_jret (by decide +kernel) rfl) (
  e_no_more))))))))))))))))))))))))
def w_X5_instrumentOf : eW := e_sf 13 (e_rn tb_X5_instrumentOf (iL i_X5_instrumentOf) 0 0)
theorem k_X5_instrumentOf : e_OK e_rf i_X5_instrumentOf 0 0 w_X5_instrumentOf := k_sf (k_rn (own := RX5) ⟨by decide +kernel, rfl⟩ st_X5_instrumentOf)
abbrev i_X5_loanTold : eI := (yX5_loanTold, cX5_loanTold, 2, (some .int), 1)
theorem cl_X5_loanTold : e_Cl i_X5_loanTold 1 := ⟨wd_1695, wd_82, ⟨by decide, by decide⟩, by decide +kernel, by decide⟩
def tb_X5_loanTold : eTb := [(0, t_ldI 1 1 0), (1, t_ldO 0 1 1), (2, t_getR e_rf 5 0 2), (5, t_ialc 2 1 5), (7, t_ic (fun a b => b ≤ a) 44 7), (10, t_push (.inl 10) 2 10), (12, t_ldO 0 1 12), (13, t_getR e_rf 5 0 13), (16, t_push (.inl 136) 3 16), (19, t_ldI 1 1 19), (20, t_ii (fun a b => a + b) 20), (21, t_iald 21), (22, t_ii (fun a b => a * b) 22), (23, t_ldO 0 1 23), (24, t_ldO 0 1 24), (25, t_getR e_rf 5 0 25), (28, t_push (.inl 136) 3 28), (31, t_ldI 1 1 31), (32, t_ii (fun a b => a + b) 32), (33, t_iald 33), (34, t_push (.inl 2) 1 34), (35, t_call0 3 w_X5_its 35), (38, t_ii (fun a b => a + b) 38), (39, t_push (.inl 1) 1 39), (40, t_ii (fun a b => a - b) 40), (41, t_goto 45), (44, t_push (.inl (-1)) 1 44), (45, t_jret)]
theorem st_X5_loanTold : ∀ x ∈ tb_X5_loanTold, e_Sd e_rf RX5 i_X5_loanTold x.1 x.2 :=
  e_more (s_iload_n (k := 1) (by decide +kernel) rfl) (
  e_more (s_aload_n (k := 0) (by decide +kernel) rfl) (
  e_more (s_getR (c := 5) (j := 0) (idx := 7) (by decide +kernel) (by decide) (by decide) rfl wd_1349) (
  e_more (s_ialc (n := 2) (x := 2) (s_iconst (n := 2) (v := 2) (by decide +kernel) (by decide)) (by decide +kernel) (by decide) (by decide)) (
  e_more (s_ic_ge (off := 37) (by decide +kernel) (by decide)) (
  e_more (s_bipush (n := 10) (v := 10) (by decide +kernel) (by decide)) (
  e_more (s_aload_n (k := 0) (by decide +kernel) rfl) (
  e_more (s_getR (c := 5) (j := 0) (idx := 7) (by decide +kernel) (by decide) (by decide) rfl wd_1349) (
  e_more (s_sipush (n := 136) (v := 136) (by decide +kernel) (by decide)) (
  e_more (s_iload_n (k := 1) (by decide +kernel) rfl) (
  e_more (s_iadd (by decide +kernel)) (
  e_more (s_iald (by decide +kernel)) (
  e_more (s_imul (by decide +kernel)) (
  e_more (s_aload_n (k := 0) (by decide +kernel) rfl) (
  e_more (s_aload_n (k := 0) (by decide +kernel) rfl) (
  e_more (s_getR (c := 5) (j := 0) (idx := 7) (by decide +kernel) (by decide) (by decide) rfl wd_1349) (
  e_more (s_sipush (n := 136) (v := 136) (by decide +kernel) (by decide)) (
  e_more (s_iload_n (k := 1) (by decide +kernel) rfl) (
  e_more (s_iadd (by decide +kernel)) (
  e_more (s_iald (by decide +kernel)) (
  e_more (s_iconst (n := 2) (v := 2) (by decide +kernel) (by decide)) (
  e_more (e_call0 (s_callV (c := 5) (idx := 43) k_X5_its (by decide +kernel) cl_X5_its (by decide) rfl wd_1452 wd_1454 wd_28 (by decide) (e_sf_rec rfl))) (
  e_more (s_iadd (by decide +kernel)) (
  e_more (s_iconst (n := 1) (v := 1) (by decide +kernel) (by decide)) (
  e_more (s_isub (by decide +kernel)) (
  e_more (s_goto (off := 4) (by decide +kernel) (by decide)) (
  e_more (s_iconst (n := (-1)) (v := (-1)) (by decide +kernel) (by decide)) (
  e_more (s_jret (by decide +kernel) rfl) (
  e_no_more))))))))))))))))))))))))))))
def w_X5_loanTold : eW := e_sf 13 (e_rn tb_X5_loanTold (iL i_X5_loanTold) 0 0)
theorem k_X5_loanTold : e_OK e_rf i_X5_loanTold 0 0 w_X5_loanTold := k_sf (k_rn (own := RX5) ⟨by decide +kernel, rfl⟩ st_X5_loanTold)
abbrev i_X5_loan : eI := (yX5_loan, cX5_loan, 2, (some .int), 2)
theorem cl_X5_loan : e_Cl i_X5_loan 1 := ⟨wd_1691, wd_82, ⟨by decide, by decide⟩, by decide +kernel, by decide⟩
def tb_X5_loan : eTb := [(0, t_ldO 0 1 0), (1, t_ldI 1 1 1), (2, t_if (fun a => 0 ≤ a) 9 2), (5, t_push (.inl 1) 1 5), (6, t_goto 10), (9, t_push (.inl 0) 1 9), (10, t_call0 2 w_X5_holds 10), (13, t_if (fun a => a = 0) 24 13), (16, t_ldO 0 1 16), (17, t_ldI 1 1 17), (18, t_call0 2 w_X5_loanTold 18), (21, t_goto 25), (24, t_push (.inl 0) 1 24), (25, t_jret)]
theorem st_X5_loan : ∀ x ∈ tb_X5_loan, e_Sd e_rf RX5 i_X5_loan x.1 x.2 :=
  e_more (s_aload_n (k := 0) (by decide +kernel) rfl) (
  e_more (s_iload_n (k := 1) (by decide +kernel) rfl) (
  e_more (s_if_ge (off := 7) (by decide +kernel) (by decide)) (
  e_more (s_iconst (n := 1) (v := 1) (by decide +kernel) (by decide)) (
  e_more (s_goto (off := 4) (by decide +kernel) (by decide)) (
  e_more (s_iconst (n := 0) (v := 0) (by decide +kernel) (by decide)) (
  e_more (e_call0 (s_callV (c := 5) (idx := 118) k_X5_holds (by decide +kernel) cl_X5_holds (by decide) rfl wd_1409 wd_1411 wd_20 (by decide) (e_sf_rec rfl))) (
  e_more (s_if_eq (off := 11) (by decide +kernel) (by decide)) (
  e_more (s_aload_n (k := 0) (by decide +kernel) rfl) (
  e_more (s_iload_n (k := 1) (by decide +kernel) rfl) (
  e_more (e_call0 (s_callV (c := 5) (idx := 234) k_X5_loanTold (by decide +kernel) cl_X5_loanTold (by decide) rfl wd_1692 wd_1694 wd_61 (by decide) (e_sf_rec rfl))) (
  e_more (s_goto (off := 4) (by decide +kernel) (by decide)) (
  e_more (s_iconst (n := 0) (v := 0) (by decide +kernel) (by decide)) (
  e_more (s_jret (by decide +kernel) rfl) (
  e_no_more))))))))))))))
def w_X5_loan : eW := e_sf 13 (e_rn tb_X5_loan (iL i_X5_loan) 0 0)
theorem k_X5_loan : e_OK e_rf i_X5_loan 0 0 w_X5_loan := k_sf (k_rn (own := RX5) ⟨by decide +kernel, rfl⟩ st_X5_loan)
abbrev i_X5_partTold : eI := (yX5_partTold, cX5_partTold, 4, (some .int), 5)
theorem cl_X5_partTold : e_Cl i_X5_partTold 3 := ⟨wd_1703, wd_82, ⟨by decide, by decide⟩, by decide +kernel, by decide⟩
def tb_X5_partTold : eTb := [(0, t_ldI 3 1 0), (1, t_push (.inl 3) 1 1), (2, t_icn (fun a b => a = b) 18 2), (5, t_ldO 0 1 5), (6, t_ldI 1 1 6), (7, t_call0 2 w_X5_lineUp 7), (10, t_pop 10), (11, t_ldO 0 1 11), (12, t_getR e_rf 5 9 12), (15, t_ldI 2 1 15), (16, t_iald 16), (17, t_jret), (18, t_ldI 3 1 18), (19, t_ifn (fun a => a = 0) 30 19), (22, t_ldI 1 1 22), (23, t_ldI 2 1 23), (24, t_call0 2 w_X5_kindFor 24), (27, t_goto 47), (30, t_ldI 3 1 30), (31, t_push (.inl 1) 1 31), (32, t_icn (fun a b => a = b) 42 32), (35, t_ldI 2 1 35), (36, t_call0 1 w_X5_breathFor 36), (39, t_goto 47), (42, t_ldI 1 1 42), (43, t_ldI 2 1 43), (44, t_call0 2 w_X5_lipsFor 44), (47, t_jret)]
theorem st_X5_partTold : ∀ x ∈ tb_X5_partTold, e_Sd e_rf RX5 i_X5_partTold x.1 x.2 :=
  e_more (s_iload_n (k := 3) (by decide +kernel) rfl) (
  e_more (s_iconst (n := 3) (v := 3) (by decide +kernel) (by decide)) (
  e_more (s_ic_ne (off := 16) (by decide +kernel) (by decide)) (
  e_more (s_aload_n (k := 0) (by decide +kernel) rfl) (
  e_more (s_iload_n (k := 1) (by decide +kernel) rfl) (
  e_more (e_call0 (s_callV (c := 5) (idx := 76) k_X5_lineUp (by decide +kernel) cl_X5_lineUp (by decide) rfl wd_1572 wd_1574 wd_47 (by decide) (e_sf_rec rfl))) (
  e_more (s_pop (by decide +kernel)) (
  e_more (s_aload_n (k := 0) (by decide +kernel) rfl) (
  e_more (s_getR (c := 5) (j := 9) (idx := 25) (by decide +kernel) (by decide) (by decide) rfl wd_1358) (
  e_more (s_iload_n (k := 2) (by decide +kernel) rfl) (
  e_more (s_iald (by decide +kernel)) (
  e_more (s_jret (by decide +kernel) rfl) (
  e_more (s_iload_n (k := 3) (by decide +kernel) rfl) (
  e_more (s_if_ne (off := 11) (by decide +kernel) (by decide)) (
  e_more (s_iload_n (k := 1) (by decide +kernel) rfl) (
  e_more (s_iload_n (k := 2) (by decide +kernel) rfl) (
  e_more (e_call0 (s_callS (idx := 64) k_X5_kindFor (by decide +kernel) cl_X5_kindFor wd_1580 wd_1581 (by decide))) (
  e_more (s_goto (off := 20) (by decide +kernel) (by decide)) (
  e_more (s_iload_n (k := 3) (by decide +kernel) rfl) (
  e_more (s_iconst (n := 1) (v := 1) (by decide +kernel) (by decide)) (
  e_more (s_ic_ne (off := 10) (by decide +kernel) (by decide)) (
  e_more (s_iload_n (k := 2) (by decide +kernel) rfl) (
  e_more (e_call0 (s_callS (idx := 67) k_X5_breathFor (by decide +kernel) cl_X5_breathFor wd_1583 wd_1584 (by decide))) (
  e_more (s_goto (off := 8) (by decide +kernel) (by decide)) (
  e_more (s_iload_n (k := 1) (by decide +kernel) rfl) (
  e_more (s_iload_n (k := 2) (by decide +kernel) rfl) (
  e_more (e_call0 (s_callS (idx := 70) k_X5_lipsFor (by decide +kernel) cl_X5_lipsFor wd_1586 wd_1587 (by decide))) (
  e_more (s_jret (by decide +kernel) rfl) (
  e_no_more))))))))))))))))))))))))))))
def w_X5_partTold : eW := e_sf 13 (e_rn tb_X5_partTold (iL i_X5_partTold) 0 0)
theorem k_X5_partTold : e_OK e_rf i_X5_partTold 0 0 w_X5_partTold := k_sf (k_rn (own := RX5) ⟨by decide +kernel, rfl⟩ st_X5_partTold)
abbrev i_X5_part : eI := (yX5_part, cX5_part, 4, (some .int), 6)
theorem cl_X5_part : e_Cl i_X5_part 3 := ⟨wd_1699, wd_82, ⟨by decide, by decide⟩, by decide +kernel, by decide⟩
def tb_X5_part : eTb := [(0, t_ldO 0 1 0), (1, t_ldI 1 1 1), (2, t_call0 1 w_X5_isMarch 2), (5, t_if (fun a => a = 0) 17 5), (8, t_ldI 2 1 8), (9, t_push (.inl 0) 1 9), (10, t_push (.inl 3) 1 10), (11, t_call0 3 w_X5_in 11), (14, t_ifn (fun a => a = 0) 21 14), (17, t_push (.inl 1) 1 17), (18, t_goto 35), (21, t_ldI 3 1 21), (22, t_push (.inl 0) 1 22), (23, t_push (.inl 3) 1 23), (24, t_call0 3 w_X5_in 24), (27, t_ifn (fun a => a = 0) 34 27), (30, t_push (.inl 2) 1 30), (31, t_goto 35), (34, t_push (.inl 0) 1 34), (35, t_call0 2 w_X5_holds 35), (38, t_if (fun a => a = 0) 51 38), (41, t_ldO 0 1 41), (42, t_ldI 1 1 42), (43, t_ldI 2 1 43), (44, t_ldI 3 1 44), (45, t_call0 4 w_X5_partTold 45), (48, t_goto 52), (51, t_push (.inl 0) 1 51), (52, t_jret)]
theorem st_X5_part : ∀ x ∈ tb_X5_part, e_Sd e_rf RX5 i_X5_part x.1 x.2 :=
  e_more (s_aload_n (k := 0) (by decide +kernel) rfl) (
  e_more (s_iload_n (k := 1) (by decide +kernel) rfl) (
  e_more (e_call0 (s_callS (idx := 111) k_X5_isMarch (by decide +kernel) cl_X5_isMarch wd_1557 wd_1558 (by decide))) (
  e_more (s_if_eq (off := 12) (by decide +kernel) (by decide)) (
  e_more (s_iload_n (k := 2) (by decide +kernel) rfl) (
  e_more (s_iconst (n := 0) (v := 0) (by decide +kernel) (by decide)) (
  e_more (s_iconst (n := 3) (v := 3) (by decide +kernel) (by decide)) (
  e_more (e_call0 (s_callS (idx := 32) k_X5_in (by decide +kernel) cl_X5_in wd_1406 wd_1407 (by decide))) (
  e_more (s_if_ne (off := 7) (by decide +kernel) (by decide)) (
  e_more (s_iconst (n := 1) (v := 1) (by decide +kernel) (by decide)) (
  e_more (s_goto (off := 17) (by decide +kernel) (by decide)) (
  e_more (s_iload_n (k := 3) (by decide +kernel) rfl) (
  e_more (s_iconst (n := 0) (v := 0) (by decide +kernel) (by decide)) (
  e_more (s_iconst (n := 3) (v := 3) (by decide +kernel) (by decide)) (
  e_more (e_call0 (s_callS (idx := 32) k_X5_in (by decide +kernel) cl_X5_in wd_1406 wd_1407 (by decide))) (
  e_more (s_if_ne (off := 7) (by decide +kernel) (by decide)) (
  e_more (s_iconst (n := 2) (v := 2) (by decide +kernel) (by decide)) (
  e_more (s_goto (off := 4) (by decide +kernel) (by decide)) (
  e_more (s_iconst (n := 0) (v := 0) (by decide +kernel) (by decide)) (
  e_more (e_call0 (s_callV (c := 5) (idx := 118) k_X5_holds (by decide +kernel) cl_X5_holds (by decide) rfl wd_1409 wd_1411 wd_20 (by decide) (e_sf_rec rfl))) (
  e_more (s_if_eq (off := 13) (by decide +kernel) (by decide)) (
  e_more (s_aload_n (k := 0) (by decide +kernel) rfl) (
  e_more (s_iload_n (k := 1) (by decide +kernel) rfl) (
  e_more (s_iload_n (k := 2) (by decide +kernel) rfl) (
  e_more (s_iload_n (k := 3) (by decide +kernel) rfl) (
  e_more (e_call0 (s_callV (c := 5) (idx := 237) k_X5_partTold (by decide +kernel) cl_X5_partTold (by decide) rfl wd_1700 wd_1702 wd_62 (by decide) (e_sf_rec rfl))) (
  e_more (s_goto (off := 4) (by decide +kernel) (by decide)) (
  e_more (s_iconst (n := 0) (v := 0) (by decide +kernel) (by decide)) (
  e_more (s_jret (by decide +kernel) rfl) (
  e_no_more)))))))))))))))))))))))))))))
def w_X5_part : eW := e_sf 13 (e_rn tb_X5_part (iL i_X5_part) 0 0)
theorem k_X5_part : e_OK e_rf i_X5_part 0 0 w_X5_part := k_sf (k_rn (own := RX5) ⟨by decide +kernel, rfl⟩ st_X5_part)
abbrev i_X5_debts : eI := (yX5_debts, cX5_debts, 3, (some .int), 1)
theorem cl_X5_debts : e_Cl i_X5_debts 0 := ⟨wd_1716, wd_82, ⟨by decide, by decide⟩, by decide +kernel, by decide⟩
def tb_X5_debts : eTb := [(0, t_push (.inl 0) 1 0), (1, t_stI 1 1 1), (2, t_push (.inl 0) 1 2), (3, t_stI 2 1 3), (4, t_ldI 2 1 4), (5, t_ldO 0 1 5), (6, t_getR e_rf 5 0 6), (9, t_ialc 0 1 9), (11, t_ic (fun a b => b ≤ a) 29 11), (14, t_ldI 1 1 14), (15, t_ldO 0 1 15), (16, t_ldI 2 1 16), (17, t_push (.inl 3) 1 17), (18, t_call0 3 w_X5_of 18), (21, t_ii (fun a b => a + b) 21), (22, t_stI 1 1 22), (23, t_iinc 2 1 23), (26, t_goto 4), (29, t_ldI 1 1 29), (30, t_jret)]
theorem st_X5_debts : ∀ x ∈ tb_X5_debts, e_Sd e_rf RX5 i_X5_debts x.1 x.2 :=
  e_more (s_iconst (n := 0) (v := 0) (by decide +kernel) (by decide)) (
  e_more (s_istore_n (k := 1) (by decide +kernel) rfl (by decide)) (
  e_more (s_iconst (n := 0) (v := 0) (by decide +kernel) (by decide)) (
  e_more (s_istore_n (k := 2) (by decide +kernel) rfl (by decide)) (
  e_more (s_iload_n (k := 2) (by decide +kernel) rfl) (
  e_more (s_aload_n (k := 0) (by decide +kernel) rfl) (
  e_more (s_getR (c := 5) (j := 0) (idx := 7) (by decide +kernel) (by decide) (by decide) rfl wd_1349) (
  e_more (s_ialc (n := 0) (x := 0) (s_iconst (n := 0) (v := 0) (by decide +kernel) (by decide)) (by decide +kernel) (by decide) (by decide)) (
  e_more (s_ic_ge (off := 18) (by decide +kernel) (by decide)) (
  e_more (s_iload_n (k := 1) (by decide +kernel) rfl) (
  e_more (s_aload_n (k := 0) (by decide +kernel) rfl) (
  e_more (s_iload_n (k := 2) (by decide +kernel) rfl) (
  e_more (s_iconst (n := 3) (v := 3) (by decide +kernel) (by decide)) (
  e_more (e_call0 (s_callV (c := 5) (idx := 47) k_X5_of (by decide +kernel) cl_X5_of (by decide) rfl wd_1456 wd_1458 wd_29 (by decide) (e_sf_rec rfl))) (
  e_more (s_iadd (by decide +kernel)) (
  e_more (s_istore_n (k := 1) (by decide +kernel) rfl (by decide)) (
  e_more (s_iinc (z := 1) (n := 1) (by decide +kernel) (by decide) (by decide)) (
  e_more (s_goto (off := (-22)) (by decide +kernel) (by decide)) (
  e_more (s_iload_n (k := 1) (by decide +kernel) rfl) (
  e_more (s_jret (by decide +kernel) rfl) (
  e_no_more))))))))))))))))))))
def w_X5_debts : eW := e_sf 13 (e_rn tb_X5_debts (iL i_X5_debts) 0 0)
theorem k_X5_debts : e_OK e_rf i_X5_debts 0 0 w_X5_debts := k_sf (k_rn (own := RX5) ⟨by decide +kernel, rfl⟩ st_X5_debts)
abbrev i_X5_countTold : eI := (yX5_countTold, cX5_countTold, 2, (some .int), 2)
theorem cl_X5_countTold : e_Cl i_X5_countTold 1 := ⟨wd_1711, wd_82, ⟨by decide, by decide⟩, by decide +kernel, by decide⟩
def tb_X5_countTold_0 : eTb := [(0, t_ldI 1 1 0), (1, t_sw [(4, 76), (5, 171), (6, 171), (7, 171), (8, 89), (9, 100), (10, 135), (11, 135), (12, 135), (13, 135), (14, 148), (15, 153), (16, 153), (17, 153), (18, 166)] 171), (76, t_ldO 0 1 76), (77, t_call0 1 w_X5_isSunday 77), (80, t_if (fun a => a = 0) 87 80), (83, t_push (.inl 1) 1 83), (84, t_goto 88), (87, t_push (.inl 0) 1 87), (88, t_jret), (89, t_ldO 0 1 89), (90, t_getR e_rf 5 0 90), (93, t_ialc 8 2 93), (96, t_push (.inl 1000000) 2 96), (98, t_ii (fun a b => a + b) 98), (99, t_jret), (100, t_ldO 0 1 100), (101, t_getR e_rf 5 0 101), (104, t_ialc 9 2 104), (107, t_ldO 0 1 107), (108, t_getR e_rf 5 0 108), (111, t_ialc 10 2 111), (114, t_ii (fun a b => a + b) 114), (115, t_ldO 0 1 115), (116, t_getR e_rf 5 0 116), (119, t_ialc 11 2 119), (122, t_ii (fun a b => a - b) 122), (123, t_ldO 0 1 123), (124, t_getR e_rf 5 0 124), (127, t_ialc 12 2 127), (130, t_ii (fun a b => a - b) 130), (131, t_push (.inl 1000000) 2 131), (133, t_ii (fun a b => a + b) 133), (134, t_jret), (135, t_ldO 0 1 135), (136, t_getR e_rf 5 0 136), (139, t_push (.inl 9) 2 139), (141, t_ldI 1 1 141), (142, t_ii (fun a b => a + b) 142), (143, t_push (.inl 10) 2 143), (145, t_ii (fun a b => a - b) 145)]
theorem st_X5_countTold_0 : ∀ x ∈ tb_X5_countTold_0, e_Sd e_rf RX5 i_X5_countTold x.1 x.2 :=
  e_more (s_iload_n (k := 1) (by decide +kernel) rfl) (
  e_more (s_table (dflt := 170) (lo := 4) (hi := 18) (offs := #[75, 170, 170, 170, 88, 99, 134, 134, 134, 134, 147, 152, 152, 152, 165]) (len := 75) (l := [(4, 76), (5, 171), (6, 171), (7, 171), (8, 89), (9, 100), (10, 135), (11, 135), (12, 135), (13, 135), (14, 148), (15, 153), (16, 153), (17, 153), (18, 166)]) (by decide +kernel) (by decide +kernel) (by decide +kernel) (by decide)) (
  e_more (s_aload_n (k := 0) (by decide +kernel) rfl) (
  e_more (e_call0 (s_callV (c := 5) (idx := 114) k_X5_isSunday (by decide +kernel) cl_X5_isSunday (by decide) rfl wd_1560 wd_1562 wd_44 (by decide) (e_sf_rec rfl))) (
  e_more (s_if_eq (off := 7) (by decide +kernel) (by decide)) (
  e_more (s_iconst (n := 1) (v := 1) (by decide +kernel) (by decide)) (
  e_more (s_goto (off := 4) (by decide +kernel) (by decide)) (
  e_more (s_iconst (n := 0) (v := 0) (by decide +kernel) (by decide)) (
  e_more (s_jret (by decide +kernel) rfl) (
  e_more (s_aload_n (k := 0) (by decide +kernel) rfl) (
  e_more (s_getR (c := 5) (j := 0) (idx := 7) (by decide +kernel) (by decide) (by decide) rfl wd_1349) (
  e_more (s_ialc (n := 8) (x := 8) (s_bipush (n := 8) (v := 8) (by decide +kernel) (by decide)) (by decide +kernel) (by decide) (by decide)) (
  e_more (s_ldc (i := 241) (v := 1000000) (by decide +kernel) wd_1712) (
  e_more (s_iadd (by decide +kernel)) (
  e_more (s_jret (by decide +kernel) rfl) (
  e_more (s_aload_n (k := 0) (by decide +kernel) rfl) (
  e_more (s_getR (c := 5) (j := 0) (idx := 7) (by decide +kernel) (by decide) (by decide) rfl wd_1349) (
  e_more (s_ialc (n := 9) (x := 9) (s_bipush (n := 9) (v := 9) (by decide +kernel) (by decide)) (by decide +kernel) (by decide) (by decide)) (
  e_more (s_aload_n (k := 0) (by decide +kernel) rfl) (
  e_more (s_getR (c := 5) (j := 0) (idx := 7) (by decide +kernel) (by decide) (by decide) rfl wd_1349) (
  e_more (s_ialc (n := 10) (x := 10) (s_bipush (n := 10) (v := 10) (by decide +kernel) (by decide)) (by decide +kernel) (by decide) (by decide)) (
  e_more (s_iadd (by decide +kernel)) (
  e_more (s_aload_n (k := 0) (by decide +kernel) rfl) (
  e_more (s_getR (c := 5) (j := 0) (idx := 7) (by decide +kernel) (by decide) (by decide) rfl wd_1349) (
  e_more (s_ialc (n := 11) (x := 11) (s_bipush (n := 11) (v := 11) (by decide +kernel) (by decide)) (by decide +kernel) (by decide) (by decide)) (
  e_more (s_isub (by decide +kernel)) (
  e_more (s_aload_n (k := 0) (by decide +kernel) rfl) (
  e_more (s_getR (c := 5) (j := 0) (idx := 7) (by decide +kernel) (by decide) (by decide) rfl wd_1349) (
  e_more (s_ialc (n := 12) (x := 12) (s_bipush (n := 12) (v := 12) (by decide +kernel) (by decide)) (by decide +kernel) (by decide) (by decide)) (
  e_more (s_isub (by decide +kernel)) (
  e_more (s_ldc (i := 241) (v := 1000000) (by decide +kernel) wd_1712) (
  e_more (s_iadd (by decide +kernel)) (
  e_more (s_jret (by decide +kernel) rfl) (
  e_more (s_aload_n (k := 0) (by decide +kernel) rfl) (
  e_more (s_getR (c := 5) (j := 0) (idx := 7) (by decide +kernel) (by decide) (by decide) rfl wd_1349) (
  e_more (s_bipush (n := 9) (v := 9) (by decide +kernel) (by decide)) (
  e_more (s_iload_n (k := 1) (by decide +kernel) rfl) (
  e_more (s_iadd (by decide +kernel)) (
  e_more (s_bipush (n := 10) (v := 10) (by decide +kernel) (by decide)) (
  e_more (s_isub (by decide +kernel)) (
  e_no_more))))))))))))))))))))))))))))))))))))))))
def tb_X5_countTold_1 : eTb := [(146, t_iald 146), (147, t_jret), (148, t_ldO 0 1 148), (149, t_call0 1 w_X5_debts 149), (152, t_jret), (153, t_ldO 0 1 153), (154, t_getR e_rf 5 0 154), (157, t_push (.inl 13) 2 157), (159, t_ldI 1 1 159), (160, t_ii (fun a b => a + b) 160), (161, t_push (.inl 15) 2 161), (163, t_ii (fun a b => a - b) 163), (164, t_iald 164), (165, t_jret), (166, t_ldO 0 1 166), (167, t_getI 5 2 167), (170, t_jret), (171, t_ldO 0 1 171), (172, t_getR e_rf 5 0 172), (175, t_ldI 1 1 175), (176, t_iald 176), (177, t_jret)]
theorem st_X5_countTold_1 : ∀ x ∈ tb_X5_countTold_1, e_Sd e_rf RX5 i_X5_countTold x.1 x.2 :=
  e_more (s_iald (by decide +kernel)) (
  e_more (s_jret (by decide +kernel) rfl) (
  e_more (s_aload_n (k := 0) (by decide +kernel) rfl) (
  e_more (e_call0 (s_callV (c := 5) (idx := 242) k_X5_debts (by decide +kernel) cl_X5_debts (by decide) rfl wd_1713 wd_1715 wd_64 (by decide) (e_sf_rec rfl))) (
  e_more (s_jret (by decide +kernel) rfl) (
  e_more (s_aload_n (k := 0) (by decide +kernel) rfl) (
  e_more (s_getR (c := 5) (j := 0) (idx := 7) (by decide +kernel) (by decide) (by decide) rfl wd_1349) (
  e_more (s_bipush (n := 13) (v := 13) (by decide +kernel) (by decide)) (
  e_more (s_iload_n (k := 1) (by decide +kernel) rfl) (
  e_more (s_iadd (by decide +kernel)) (
  e_more (s_bipush (n := 15) (v := 15) (by decide +kernel) (by decide)) (
  e_more (s_isub (by decide +kernel)) (
  e_more (s_iald (by decide +kernel)) (
  e_more (s_jret (by decide +kernel) rfl) (
  e_more (s_aload_n (k := 0) (by decide +kernel) rfl) (
  e_more (s_getI (c := 5) (j := 2) (idx := 36) (by decide +kernel) (by decide) (by decide) rfl wd_1351) (
  e_more (s_jret (by decide +kernel) rfl) (
  e_more (s_aload_n (k := 0) (by decide +kernel) rfl) (
  e_more (s_getR (c := 5) (j := 0) (idx := 7) (by decide +kernel) (by decide) (by decide) rfl wd_1349) (
  e_more (s_iload_n (k := 1) (by decide +kernel) rfl) (
  e_more (s_iald (by decide +kernel)) (
  e_more (s_jret (by decide +kernel) rfl) (
  e_no_more))))))))))))))))))))))
def tb_X5_countTold : eTb := tb_X5_countTold_0 ++ tb_X5_countTold_1
theorem st_X5_countTold : ∀ x ∈ tb_X5_countTold, e_Sd e_rf RX5 i_X5_countTold x.1 x.2 := e_app (st_X5_countTold_0) st_X5_countTold_1
def w_X5_countTold : eW := e_sf 13 (e_rn tb_X5_countTold (iL i_X5_countTold) 0 0)
theorem k_X5_countTold : e_OK e_rf i_X5_countTold 0 0 w_X5_countTold := k_sf (k_rn (own := RX5) ⟨by decide +kernel, rfl⟩ st_X5_countTold)
abbrev i_X5_count : eI := (yX5_count, cX5_count, 2, (some .int), 3)
theorem cl_X5_count : e_Cl i_X5_count 1 := ⟨wd_1707, wd_82, ⟨by decide, by decide⟩, by decide +kernel, by decide⟩
def tb_X5_count : eTb := [(0, t_ldO 0 1 0), (1, t_ldI 1 1 1), (2, t_push (.inl 0) 1 2), (3, t_push (.inl 18) 2 3), (5, t_call0 3 w_X5_in 5), (8, t_if (fun a => a = 0) 15 8), (11, t_push (.inl 0) 1 11), (12, t_goto 16), (15, t_push (.inl 1) 1 15), (16, t_call0 2 w_X5_holds 16), (19, t_if (fun a => a = 0) 30 19), (22, t_ldO 0 1 22), (23, t_ldI 1 1 23), (24, t_call0 2 w_X5_countTold 24), (27, t_goto 31), (30, t_push (.inl 0) 1 30), (31, t_jret)]
theorem st_X5_count : ∀ x ∈ tb_X5_count, e_Sd e_rf RX5 i_X5_count x.1 x.2 :=
  e_more (s_aload_n (k := 0) (by decide +kernel) rfl) (
  e_more (s_iload_n (k := 1) (by decide +kernel) rfl) (
  e_more (s_iconst (n := 0) (v := 0) (by decide +kernel) (by decide)) (
  e_more (s_bipush (n := 18) (v := 18) (by decide +kernel) (by decide)) (
  e_more (e_call0 (s_callS (idx := 32) k_X5_in (by decide +kernel) cl_X5_in wd_1406 wd_1407 (by decide))) (
  e_more (s_if_eq (off := 7) (by decide +kernel) (by decide)) (
  e_more (s_iconst (n := 0) (v := 0) (by decide +kernel) (by decide)) (
  e_more (s_goto (off := 4) (by decide +kernel) (by decide)) (
  e_more (s_iconst (n := 1) (v := 1) (by decide +kernel) (by decide)) (
  e_more (e_call0 (s_callV (c := 5) (idx := 118) k_X5_holds (by decide +kernel) cl_X5_holds (by decide) rfl wd_1409 wd_1411 wd_20 (by decide) (e_sf_rec rfl))) (
  e_more (s_if_eq (off := 11) (by decide +kernel) (by decide)) (
  e_more (s_aload_n (k := 0) (by decide +kernel) rfl) (
  e_more (s_iload_n (k := 1) (by decide +kernel) rfl) (
  e_more (e_call0 (s_callV (c := 5) (idx := 245) k_X5_countTold (by decide +kernel) cl_X5_countTold (by decide) rfl wd_1708 wd_1710 wd_63 (by decide) (e_sf_rec rfl))) (
  e_more (s_goto (off := 4) (by decide +kernel) (by decide)) (
  e_more (s_iconst (n := 0) (v := 0) (by decide +kernel) (by decide)) (
  e_more (s_jret (by decide +kernel) rfl) (
  e_no_more)))))))))))))))))
def w_X5_count : eW := e_sf 13 (e_rn tb_X5_count (iL i_X5_count) 0 0)
theorem k_X5_count : e_OK e_rf i_X5_count 0 0 w_X5_count := k_sf (k_rn (own := RX5) ⟨by decide +kernel, rfl⟩ st_X5_count)
abbrev i_X5_noLoan : eI := (yX5_noLoan, cX5_noLoan, 3, (some .int), 3)
theorem cl_X5_noLoan : e_Cl i_X5_noLoan 2 := ⟨wd_1720, wd_82, ⟨by decide, by decide⟩, by decide +kernel, by decide⟩
def tb_X5_noLoan : eTb := [(0, t_ldO 0 1 0), (1, t_ldO 0 1 1), (2, t_ldI 1 1 2), (3, t_call0 2 w_X5_isInstrument 3), (6, t_if (fun a => a = 0) 21 6), (9, t_ldO 0 1 9), (10, t_ldI 2 1 10), (11, t_call0 2 w_X5_isPupil 11), (14, t_if (fun a => a = 0) 21 14), (17, t_push (.inl 0) 1 17), (18, t_goto 22), (21, t_push (.inl 1) 1 21), (22, t_call0 2 w_X5_holds 22), (25, t_if (fun a => a = 0) 37 25), (28, t_ldO 0 1 28), (29, t_ldI 1 1 29), (30, t_ldI 2 1 30), (31, t_call0 3 w_X5_reasonOfLoan 31), (34, t_goto 38), (37, t_push (.inl 0) 1 37), (38, t_jret)]
theorem st_X5_noLoan : ∀ x ∈ tb_X5_noLoan, e_Sd e_rf RX5 i_X5_noLoan x.1 x.2 :=
  e_more (s_aload_n (k := 0) (by decide +kernel) rfl) (
  e_more (s_aload_n (k := 0) (by decide +kernel) rfl) (
  e_more (s_iload_n (k := 1) (by decide +kernel) rfl) (
  e_more (e_call0 (s_callV (c := 5) (idx := 96) k_X5_isInstrument (by decide +kernel) cl_X5_isInstrument (by decide) rfl wd_1440 wd_1442 wd_25 (by decide) (e_sf_rec rfl))) (
  e_more (s_if_eq (off := 15) (by decide +kernel) (by decide)) (
  e_more (s_aload_n (k := 0) (by decide +kernel) rfl) (
  e_more (s_iload_n (k := 2) (by decide +kernel) rfl) (
  e_more (e_call0 (s_callV (c := 5) (idx := 99) k_X5_isPupil (by decide +kernel) cl_X5_isPupil (by decide) rfl wd_1444 wd_1446 wd_26 (by decide) (e_sf_rec rfl))) (
  e_more (s_if_eq (off := 7) (by decide +kernel) (by decide)) (
  e_more (s_iconst (n := 0) (v := 0) (by decide +kernel) (by decide)) (
  e_more (s_goto (off := 4) (by decide +kernel) (by decide)) (
  e_more (s_iconst (n := 1) (v := 1) (by decide +kernel) (by decide)) (
  e_more (e_call0 (s_callV (c := 5) (idx := 118) k_X5_holds (by decide +kernel) cl_X5_holds (by decide) rfl wd_1409 wd_1411 wd_20 (by decide) (e_sf_rec rfl))) (
  e_more (s_if_eq (off := 12) (by decide +kernel) (by decide)) (
  e_more (s_aload_n (k := 0) (by decide +kernel) rfl) (
  e_more (s_iload_n (k := 1) (by decide +kernel) rfl) (
  e_more (s_iload_n (k := 2) (by decide +kernel) rfl) (
  e_more (e_call0 (s_callV (c := 5) (idx := 102) k_X5_reasonOfLoan (by decide +kernel) cl_X5_reasonOfLoan (by decide) rfl wd_1448 wd_1450 wd_27 (by decide) (e_sf_rec rfl))) (
  e_more (s_goto (off := 4) (by decide +kernel) (by decide)) (
  e_more (s_iconst (n := 0) (v := 0) (by decide +kernel) (by decide)) (
  e_more (s_jret (by decide +kernel) rfl) (
  e_no_more)))))))))))))))))))))
def w_X5_noLoan : eW := e_sf 13 (e_rn tb_X5_noLoan (iL i_X5_noLoan) 0 0)
theorem k_X5_noLoan : e_OK e_rf i_X5_noLoan 0 0 w_X5_noLoan := k_sf (k_rn (own := RX5) ⟨by decide +kernel, rfl⟩ st_X5_noLoan)
abbrev i_X5_noLesson : eI := (yX5_noLesson, cX5_noLesson, 3, (some .int), 4)
theorem cl_X5_noLesson : e_Cl i_X5_noLesson 2 := ⟨wd_1724, wd_82, ⟨by decide, by decide⟩, by decide +kernel, by decide⟩
def tb_X5_noLesson : eTb := [(0, t_ldO 0 1 0), (1, t_ldO 0 1 1), (2, t_ldI 1 1 2), (3, t_call0 2 w_X5_isPupil 3), (6, t_if (fun a => a = 0) 20 6), (9, t_ldI 2 1 9), (10, t_call0 1 w_X5_isTeacher 10), (13, t_if (fun a => a = 0) 20 13), (16, t_push (.inl 0) 1 16), (17, t_goto 21), (20, t_push (.inl 1) 1 20), (21, t_call0 2 w_X5_holds 21), (24, t_if (fun a => a = 0) 36 24), (27, t_ldO 0 1 27), (28, t_ldI 1 1 28), (29, t_ldI 2 1 29), (30, t_call0 3 w_X5_reasonOfLesson 30), (33, t_goto 37), (36, t_push (.inl 0) 1 36), (37, t_jret)]
theorem st_X5_noLesson : ∀ x ∈ tb_X5_noLesson, e_Sd e_rf RX5 i_X5_noLesson x.1 x.2 :=
  e_more (s_aload_n (k := 0) (by decide +kernel) rfl) (
  e_more (s_aload_n (k := 0) (by decide +kernel) rfl) (
  e_more (s_iload_n (k := 1) (by decide +kernel) rfl) (
  e_more (e_call0 (s_callV (c := 5) (idx := 99) k_X5_isPupil (by decide +kernel) cl_X5_isPupil (by decide) rfl wd_1444 wd_1446 wd_26 (by decide) (e_sf_rec rfl))) (
  e_more (s_if_eq (off := 14) (by decide +kernel) (by decide)) (
  e_more (s_iload_n (k := 2) (by decide +kernel) rfl) (
  e_more (e_call0 (s_callS (idx := 105) k_X5_isTeacher (by decide +kernel) cl_X5_isTeacher wd_1524 wd_1525 (by decide))) (
  e_more (s_if_eq (off := 7) (by decide +kernel) (by decide)) (
  e_more (s_iconst (n := 0) (v := 0) (by decide +kernel) (by decide)) (
  e_more (s_goto (off := 4) (by decide +kernel) (by decide)) (
  e_more (s_iconst (n := 1) (v := 1) (by decide +kernel) (by decide)) (
  e_more (e_call0 (s_callV (c := 5) (idx := 118) k_X5_holds (by decide +kernel) cl_X5_holds (by decide) rfl wd_1409 wd_1411 wd_20 (by decide) (e_sf_rec rfl))) (
  e_more (s_if_eq (off := 12) (by decide +kernel) (by decide)) (
  e_more (s_aload_n (k := 0) (by decide +kernel) rfl) (
  e_more (s_iload_n (k := 1) (by decide +kernel) rfl) (
  e_more (s_iload_n (k := 2) (by decide +kernel) rfl) (
  e_more (e_call0 (s_callV (c := 5) (idx := 108) k_X5_reasonOfLesson (by decide +kernel) cl_X5_reasonOfLesson (by decide) rfl wd_1527 wd_1529 wd_39 (by decide) (e_sf_rec rfl))) (
  e_more (s_goto (off := 4) (by decide +kernel) (by decide)) (
  e_more (s_iconst (n := 0) (v := 0) (by decide +kernel) (by decide)) (
  e_more (s_jret (by decide +kernel) rfl) (
  e_no_more))))))))))))))))))))
def w_X5_noLesson : eW := e_sf 13 (e_rn tb_X5_noLesson (iL i_X5_noLesson) 0 0)
theorem k_X5_noLesson : e_OK e_rf i_X5_noLesson 0 0 w_X5_noLesson := k_sf (k_rn (own := RX5) ⟨by decide +kernel, rfl⟩ st_X5_noLesson)
abbrev i_X5_shortOf : eI := (yX5_shortOf, cX5_shortOf, 2, (some .int), 5)
theorem cl_X5_shortOf : e_Cl i_X5_shortOf 1 := ⟨wd_1728, wd_82, ⟨by decide, by decide⟩, by decide +kernel, by decide⟩
def tb_X5_shortOf : eTb := [(0, t_ldO 0 1 0), (1, t_ldI 1 1 1), (2, t_call0 1 w_X5_isMarch 2), (5, t_if (fun a => a = 0) 12 5), (8, t_push (.inl 0) 1 8), (9, t_goto 13), (12, t_push (.inl 1) 1 12), (13, t_call0 2 w_X5_holds 13), (16, t_if (fun a => a = 0) 27 16), (19, t_ldO 0 1 19), (20, t_ldI 1 1 20), (21, t_call0 2 w_X5_lineUp 21), (24, t_goto 28), (27, t_push (.inl 0) 1 27), (28, t_jret)]
theorem st_X5_shortOf : ∀ x ∈ tb_X5_shortOf, e_Sd e_rf RX5 i_X5_shortOf x.1 x.2 :=
  e_more (s_aload_n (k := 0) (by decide +kernel) rfl) (
  e_more (s_iload_n (k := 1) (by decide +kernel) rfl) (
  e_more (e_call0 (s_callS (idx := 111) k_X5_isMarch (by decide +kernel) cl_X5_isMarch wd_1557 wd_1558 (by decide))) (
  e_more (s_if_eq (off := 7) (by decide +kernel) (by decide)) (
  e_more (s_iconst (n := 0) (v := 0) (by decide +kernel) (by decide)) (
  e_more (s_goto (off := 4) (by decide +kernel) (by decide)) (
  e_more (s_iconst (n := 1) (v := 1) (by decide +kernel) (by decide)) (
  e_more (e_call0 (s_callV (c := 5) (idx := 118) k_X5_holds (by decide +kernel) cl_X5_holds (by decide) rfl wd_1409 wd_1411 wd_20 (by decide) (e_sf_rec rfl))) (
  e_more (s_if_eq (off := 11) (by decide +kernel) (by decide)) (
  e_more (s_aload_n (k := 0) (by decide +kernel) rfl) (
  e_more (s_iload_n (k := 1) (by decide +kernel) rfl) (
  e_more (e_call0 (s_callV (c := 5) (idx := 76) k_X5_lineUp (by decide +kernel) cl_X5_lineUp (by decide) rfl wd_1572 wd_1574 wd_47 (by decide) (e_sf_rec rfl))) (
  e_more (s_goto (off := 4) (by decide +kernel) (by decide)) (
  e_more (s_iconst (n := 0) (v := 0) (by decide +kernel) (by decide)) (
  e_more (s_jret (by decide +kernel) rfl) (
  e_no_more)))))))))))))))
def w_X5_shortOf : eW := e_sf 13 (e_rn tb_X5_shortOf (iL i_X5_shortOf) 0 0)
theorem k_X5_shortOf : e_OK e_rf i_X5_shortOf 0 0 w_X5_shortOf := k_sf (k_rn (own := RX5) ⟨by decide +kernel, rfl⟩ st_X5_shortOf)
abbrev i_X5_playersOf : eI := (yX5_playersOf, cX5_playersOf, 5, (some .int), 4)
theorem cl_X5_playersOf : e_Cl i_X5_playersOf 2 := ⟨wd_1740, wd_82, ⟨by decide, by decide⟩, by decide +kernel, by decide⟩
def tb_X5_playersOf : eTb := [(0, t_push (.inl 0) 1 0), (1, t_stI 3 1 1), (2, t_push (.inl 0) 1 2), (3, t_stI 4 2 3), (5, t_ldI 4 2 5), (7, t_ldO 0 1 7), (8, t_getR e_rf 5 0 8), (11, t_ialc 0 1 11), (13, t_ic (fun a b => b ≤ a) 44 13), (16, t_ldI 3 1 16), (17, t_ldO 0 1 17), (18, t_ldI 4 2 18), (20, t_ldI 1 1 20), (21, t_ldI 2 1 21), (22, t_call0 4 w_X5_couldPlay 22), (25, t_if (fun a => a = 0) 35 25), (28, t_push (.inl 1) 1 28), (29, t_ldI 4 2 29), (31, t_ii (fun a b => a <<< (b &&& 31)) 31), (32, t_goto 36), (35, t_push (.inl 0) 1 35), (36, t_ii (fun a b => a ||| b) 36), (37, t_stI 3 1 37), (38, t_iinc 4 1 38), (41, t_goto 5), (44, t_ldI 3 1 44), (45, t_jret)]
theorem st_X5_playersOf : ∀ x ∈ tb_X5_playersOf, e_Sd e_rf RX5 i_X5_playersOf x.1 x.2 :=
  e_more (s_iconst (n := 0) (v := 0) (by decide +kernel) (by decide)) (
  e_more (s_istore_n (k := 3) (by decide +kernel) rfl (by decide)) (
  e_more (s_iconst (n := 0) (v := 0) (by decide +kernel) (by decide)) (
  e_more (s_istore (by decide +kernel) (by decide)) (
  e_more (s_iload (by decide +kernel)) (
  e_more (s_aload_n (k := 0) (by decide +kernel) rfl) (
  e_more (s_getR (c := 5) (j := 0) (idx := 7) (by decide +kernel) (by decide) (by decide) rfl wd_1349) (
  e_more (s_ialc (n := 0) (x := 0) (s_iconst (n := 0) (v := 0) (by decide +kernel) (by decide)) (by decide +kernel) (by decide) (by decide)) (
  e_more (s_ic_ge (off := 31) (by decide +kernel) (by decide)) (
  e_more (s_iload_n (k := 3) (by decide +kernel) rfl) (
  e_more (s_aload_n (k := 0) (by decide +kernel) rfl) (
  e_more (s_iload (by decide +kernel)) (
  e_more (s_iload_n (k := 1) (by decide +kernel) rfl) (
  e_more (s_iload_n (k := 2) (by decide +kernel) rfl) (
  e_more (e_call0 (s_callV (c := 5) (idx := 73) k_X5_couldPlay (by decide +kernel) cl_X5_couldPlay (by decide) rfl wd_1576 wd_1578 wd_48 (by decide) (e_sf_rec rfl))) (
  e_more (s_if_eq (off := 10) (by decide +kernel) (by decide)) (
  e_more (s_iconst (n := 1) (v := 1) (by decide +kernel) (by decide)) (
  e_more (s_iload (by decide +kernel)) (
  e_more (s_ishl (by decide +kernel)) (
  e_more (s_goto (off := 4) (by decide +kernel) (by decide)) (
  e_more (s_iconst (n := 0) (v := 0) (by decide +kernel) (by decide)) (
  e_more (s_ior (by decide +kernel)) (
  e_more (s_istore_n (k := 3) (by decide +kernel) rfl (by decide)) (
  e_more (s_iinc (z := 1) (n := 1) (by decide +kernel) (by decide) (by decide)) (
  e_more (s_goto (off := (-36)) (by decide +kernel) (by decide)) (
  e_more (s_iload_n (k := 3) (by decide +kernel) rfl) (
  e_more (s_jret (by decide +kernel) rfl) (
  e_no_more)))))))))))))))))))))))))))
def w_X5_playersOf : eW := e_sf 13 (e_rn tb_X5_playersOf (iL i_X5_playersOf) 0 0)
theorem k_X5_playersOf : e_OK e_rf i_X5_playersOf 0 0 w_X5_playersOf := k_sf (k_rn (own := RX5) ⟨by decide +kernel, rfl⟩ st_X5_playersOf)
abbrev i_X5_ones : eI := (yX5_ones, cX5_ones, 3, (some .int), 0)
theorem cl_X5_ones : e_Cl i_X5_ones 1 := ⟨wd_1743, wd_82, ⟨by decide, by decide⟩, by decide +kernel, by decide⟩
def tb_X5_ones : eTb := [(0, t_push (.inl 0) 1 0), (1, t_stI 1 1 1), (2, t_ldI 0 1 2), (3, t_stI 2 1 3), (4, t_ldI 2 1 4), (5, t_if (fun a => a = 0) 20 5), (8, t_iinc 1 1 8), (11, t_ldI 2 1 11), (12, t_ldI 2 1 12), (13, t_push (.inl 1) 1 13), (14, t_ii (fun a b => a - b) 14), (15, t_ii (fun a b => a &&& b) 15), (16, t_stI 2 1 16), (17, t_goto 4), (20, t_ldI 1 1 20), (21, t_jret)]
theorem st_X5_ones : ∀ x ∈ tb_X5_ones, e_Sd e_rf RX5 i_X5_ones x.1 x.2 :=
  e_more (s_iconst (n := 0) (v := 0) (by decide +kernel) (by decide)) (
  e_more (s_istore_n (k := 1) (by decide +kernel) rfl (by decide)) (
  e_more (s_iload_n (k := 0) (by decide +kernel) rfl) (
  e_more (s_istore_n (k := 2) (by decide +kernel) rfl (by decide)) (
  e_more (s_iload_n (k := 2) (by decide +kernel) rfl) (
  e_more (s_if_eq (off := 15) (by decide +kernel) (by decide)) (
  e_more (s_iinc (z := 1) (n := 1) (by decide +kernel) (by decide) (by decide)) (
  e_more (s_iload_n (k := 2) (by decide +kernel) rfl) (
  e_more (s_iload_n (k := 2) (by decide +kernel) rfl) (
  e_more (s_iconst (n := 1) (v := 1) (by decide +kernel) (by decide)) (
  e_more (s_isub (by decide +kernel)) (
  e_more (s_iand (by decide +kernel)) (
  e_more (s_istore_n (k := 2) (by decide +kernel) rfl (by decide)) (
  e_more (s_goto (off := (-13)) (by decide +kernel) (by decide)) (
  e_more (s_iload_n (k := 1) (by decide +kernel) rfl) (
  e_more (s_jret (by decide +kernel) rfl) (
  e_no_more))))))))))))))))
def w_X5_ones : eW := e_rn tb_X5_ones (iL i_X5_ones) 0 0
theorem k_X5_ones : e_OK e_rf i_X5_ones 0 0 w_X5_ones := k_rn (own := RX5) ⟨by decide +kernel, rfl⟩ st_X5_ones
abbrev i_X5_mostTold : eI := (yX5_mostTold, cX5_mostTold, 6, (some .int), 5)
theorem cl_X5_mostTold : e_Cl i_X5_mostTold 1 := ⟨wd_1736, wd_82, ⟨by decide, by decide⟩, by decide +kernel, by decide⟩
def tb_X5_mostTold_0 : eTb := [(0, t_push (.inl 4) 1 0), (1, t_stI 2 1 1), (2, t_push (.inl 0) 1 2), (3, t_stI 3 1 3), (4, t_ldI 3 1 4), (5, t_push (.inl 16) 2 5), (7, t_ic (fun a b => b ≤ a) 87 7), (10, t_push (.inl 0) 1 10), (11, t_stI 4 2 11), (13, t_push (.inl 0) 1 13), (14, t_stI 5 2 14), (16, t_ldI 5 2 16), (18, t_push (.inl 4) 1 18), (19, t_ic (fun a b => b ≤ a) 54 19), (22, t_ldI 4 2 22), (24, t_ldI 3 1 24), (25, t_ldI 5 2 25), (27, t_ii (fun a b => a >>> (b &&& 31)) 27), (28, t_push (.inl 1) 1 28), (29, t_ii (fun a b => a &&& b) 29), (30, t_push (.inl 1) 1 30), (31, t_icn (fun a b => a = b) 44 31), (34, t_ldO 0 1 34), (35, t_ldI 1 1 35), (36, t_ldI 5 2 36), (38, t_call0 3 w_X5_playersOf 38), (41, t_goto 45), (44, t_push (.inl 0) 1 44), (45, t_ii (fun a b => a ||| b) 45), (46, t_stI 4 2 46), (48, t_iinc 5 1 48), (51, t_goto 16), (54, t_push (.inl 4) 1 54), (55, t_ldI 3 1 55), (56, t_call0 1 w_X5_ones 56), (59, t_ii (fun a b => a - b) 59), (60, t_ldI 4 2 60), (62, t_call0 1 w_X5_ones 62), (65, t_ii (fun a b => a + b) 65), (66, t_stI 5 2 66)]
theorem st_X5_mostTold_0 : ∀ x ∈ tb_X5_mostTold_0, e_Sd e_rf RX5 i_X5_mostTold x.1 x.2 :=
  e_more (s_iconst (n := 4) (v := 4) (by decide +kernel) (by decide)) (
  e_more (s_istore_n (k := 2) (by decide +kernel) rfl (by decide)) (
  e_more (s_iconst (n := 0) (v := 0) (by decide +kernel) (by decide)) (
  e_more (s_istore_n (k := 3) (by decide +kernel) rfl (by decide)) (
  e_more (s_iload_n (k := 3) (by decide +kernel) rfl) (
  e_more (s_bipush (n := 16) (v := 16) (by decide +kernel) (by decide)) (
  e_more (s_ic_ge (off := 80) (by decide +kernel) (by decide)) (
  e_more (s_iconst (n := 0) (v := 0) (by decide +kernel) (by decide)) (
  e_more (s_istore (by decide +kernel) (by decide)) (
  e_more (s_iconst (n := 0) (v := 0) (by decide +kernel) (by decide)) (
  e_more (s_istore (by decide +kernel) (by decide)) (
  e_more (s_iload (by decide +kernel)) (
  e_more (s_iconst (n := 4) (v := 4) (by decide +kernel) (by decide)) (
  e_more (s_ic_ge (off := 35) (by decide +kernel) (by decide)) (
  e_more (s_iload (by decide +kernel)) (
  e_more (s_iload_n (k := 3) (by decide +kernel) rfl) (
  e_more (s_iload (by decide +kernel)) (
  e_more (s_ishr (by decide +kernel)) (
  e_more (s_iconst (n := 1) (v := 1) (by decide +kernel) (by decide)) (
  e_more (s_iand (by decide +kernel)) (
  e_more (s_iconst (n := 1) (v := 1) (by decide +kernel) (by decide)) (
  e_more (s_ic_ne (off := 13) (by decide +kernel) (by decide)) (
  e_more (s_aload_n (k := 0) (by decide +kernel) rfl) (
  e_more (s_iload_n (k := 1) (by decide +kernel) rfl) (
  e_more (s_iload (by decide +kernel)) (
  e_more (e_call0 (s_callV (c := 5) (idx := 248) k_X5_playersOf (by decide +kernel) cl_X5_playersOf (by decide) rfl wd_1737 wd_1739 wd_66 (by decide) (e_sf_rec rfl))) (
  e_more (s_goto (off := 4) (by decide +kernel) (by decide)) (
  e_more (s_iconst (n := 0) (v := 0) (by decide +kernel) (by decide)) (
  e_more (s_ior (by decide +kernel)) (
  e_more (s_istore (by decide +kernel) (by decide)) (
  e_more (s_iinc (z := 1) (n := 1) (by decide +kernel) (by decide) (by decide)) (
  e_more (s_goto (off := (-35)) (by decide +kernel) (by decide)) (
  e_more (s_iconst (n := 4) (v := 4) (by decide +kernel) (by decide)) (
  e_more (s_iload_n (k := 3) (by decide +kernel) rfl) (
  e_more (e_call0 (s_callS (idx := 251) k_X5_ones (by decide +kernel) cl_X5_ones wd_1741 wd_1742 (by decide))) (
  e_more (s_isub (by decide +kernel)) (
  e_more (s_iload (by decide +kernel)) (
  e_more (e_call0 (s_callS (idx := 251) k_X5_ones (by decide +kernel) cl_X5_ones wd_1741 wd_1742 (by decide))) (
  e_more (s_iadd (by decide +kernel)) (
  e_more (s_istore (by decide +kernel) (by decide)) (
  e_no_more))))))))))))))))))))))))))))))))))))))))
def tb_X5_mostTold_1 : eTb := [(68, t_ldI 5 2 68), (70, t_ldI 2 1 70), (71, t_ic (fun a b => b ≤ a) 79 71), (74, t_ldI 5 2 74), (76, t_goto 80), (79, t_ldI 2 1 79), (80, t_stI 2 1 80), (81, t_iinc 3 1 81), (84, t_goto 4), (87, t_ldI 2 1 87), (88, t_jret)]
theorem st_X5_mostTold_1 : ∀ x ∈ tb_X5_mostTold_1, e_Sd e_rf RX5 i_X5_mostTold x.1 x.2 :=
  e_more (s_iload (by decide +kernel)) (
  e_more (s_iload_n (k := 2) (by decide +kernel) rfl) (
  e_more (s_ic_ge (off := 8) (by decide +kernel) (by decide)) (
  e_more (s_iload (by decide +kernel)) (
  e_more (s_goto (off := 4) (by decide +kernel) (by decide)) (
  e_more (s_iload_n (k := 2) (by decide +kernel) rfl) (
  e_more (s_istore_n (k := 2) (by decide +kernel) rfl (by decide)) (
  e_more (s_iinc (z := 1) (n := 1) (by decide +kernel) (by decide) (by decide)) (
  e_more (s_goto (off := (-80)) (by decide +kernel) (by decide)) (
  e_more (s_iload_n (k := 2) (by decide +kernel) rfl) (
  e_more (s_jret (by decide +kernel) rfl) (
  e_no_more)))))))))))
def tb_X5_mostTold : eTb := tb_X5_mostTold_0 ++ tb_X5_mostTold_1
theorem st_X5_mostTold : ∀ x ∈ tb_X5_mostTold, e_Sd e_rf RX5 i_X5_mostTold x.1 x.2 := e_app (st_X5_mostTold_0) st_X5_mostTold_1
def w_X5_mostTold : eW := e_sf 13 (e_rn tb_X5_mostTold (iL i_X5_mostTold) 0 0)
theorem k_X5_mostTold : e_OK e_rf i_X5_mostTold 0 0 w_X5_mostTold := k_sf (k_rn (own := RX5) ⟨by decide +kernel, rfl⟩ st_X5_mostTold)
abbrev i_X5_most : eI := (yX5_most, cX5_most, 2, (some .int), 6)
theorem cl_X5_most : e_Cl i_X5_most 1 := ⟨wd_1732, wd_82, ⟨by decide, by decide⟩, by decide +kernel, by decide⟩
def tb_X5_most : eTb := [(0, t_ldO 0 1 0), (1, t_ldI 1 1 1), (2, t_call0 1 w_X5_isMarch 2), (5, t_if (fun a => a = 0) 12 5), (8, t_push (.inl 0) 1 8), (9, t_goto 13), (12, t_push (.inl 1) 1 12), (13, t_call0 2 w_X5_holds 13), (16, t_if (fun a => a = 0) 27 16), (19, t_ldO 0 1 19), (20, t_ldI 1 1 20), (21, t_call0 2 w_X5_mostTold 21), (24, t_goto 28), (27, t_push (.inl 0) 1 27), (28, t_jret)]
theorem st_X5_most : ∀ x ∈ tb_X5_most, e_Sd e_rf RX5 i_X5_most x.1 x.2 :=
  e_more (s_aload_n (k := 0) (by decide +kernel) rfl) (
  e_more (s_iload_n (k := 1) (by decide +kernel) rfl) (
  e_more (e_call0 (s_callS (idx := 111) k_X5_isMarch (by decide +kernel) cl_X5_isMarch wd_1557 wd_1558 (by decide))) (
  e_more (s_if_eq (off := 7) (by decide +kernel) (by decide)) (
  e_more (s_iconst (n := 0) (v := 0) (by decide +kernel) (by decide)) (
  e_more (s_goto (off := 4) (by decide +kernel) (by decide)) (
  e_more (s_iconst (n := 1) (v := 1) (by decide +kernel) (by decide)) (
  e_more (e_call0 (s_callV (c := 5) (idx := 118) k_X5_holds (by decide +kernel) cl_X5_holds (by decide) rfl wd_1409 wd_1411 wd_20 (by decide) (e_sf_rec rfl))) (
  e_more (s_if_eq (off := 11) (by decide +kernel) (by decide)) (
  e_more (s_aload_n (k := 0) (by decide +kernel) rfl) (
  e_more (s_iload_n (k := 1) (by decide +kernel) rfl) (
  e_more (e_call0 (s_callV (c := 5) (idx := 254) k_X5_mostTold (by decide +kernel) cl_X5_mostTold (by decide) rfl wd_1733 wd_1735 wd_65 (by decide) (e_sf_rec rfl))) (
  e_more (s_goto (off := 4) (by decide +kernel) (by decide)) (
  e_more (s_iconst (n := 0) (v := 0) (by decide +kernel) (by decide)) (
  e_more (s_jret (by decide +kernel) rfl) (
  e_no_more)))))))))))))))
def w_X5_most : eW := e_sf 13 (e_rn tb_X5_most (iL i_X5_most) 0 0)
theorem k_X5_most : e_OK e_rf i_X5_most 0 0 w_X5_most := k_sf (k_rn (own := RX5) ⟨by decide +kernel, rfl⟩ st_X5_most)
abbrev i_X5_bestTold : eI := (yX5_bestTold, cX5_bestTold, 3, (some .int), 6)
theorem cl_X5_bestTold : e_Cl i_X5_bestTold 0 := ⟨wd_1751, wd_82, ⟨by decide, by decide⟩, by decide +kernel, by decide⟩
def tb_X5_bestTold : eTb := [(0, t_push (.inl 0) 1 0), (1, t_stI 1 1 1), (2, t_push (.inl 1) 1 2), (3, t_stI 2 1 3), (4, t_ldI 2 1 4), (5, t_push (.inl 4) 1 5), (6, t_ic (fun a b => b ≤ a) 34 6), (9, t_ldO 0 1 9), (10, t_ldI 2 1 10), (11, t_call0 2 w_X5_penceOf 11), (14, t_ldO 0 1 14), (15, t_ldI 1 1 15), (16, t_call0 2 w_X5_penceOf 16), (19, t_ic (fun a b => a ≤ b) 26 19), (22, t_ldI 2 1 22), (23, t_goto 27), (26, t_ldI 1 1 26), (27, t_stI 1 1 27), (28, t_iinc 2 1 28), (31, t_goto 4), (34, t_ldI 1 1 34), (35, t_jret)]
theorem st_X5_bestTold : ∀ x ∈ tb_X5_bestTold, e_Sd e_rf RX5 i_X5_bestTold x.1 x.2 :=
  e_more (s_iconst (n := 0) (v := 0) (by decide +kernel) (by decide)) (
  e_more (s_istore_n (k := 1) (by decide +kernel) rfl (by decide)) (
  e_more (s_iconst (n := 1) (v := 1) (by decide +kernel) (by decide)) (
  e_more (s_istore_n (k := 2) (by decide +kernel) rfl (by decide)) (
  e_more (s_iload_n (k := 2) (by decide +kernel) rfl) (
  e_more (s_iconst (n := 4) (v := 4) (by decide +kernel) (by decide)) (
  e_more (s_ic_ge (off := 28) (by decide +kernel) (by decide)) (
  e_more (s_aload_n (k := 0) (by decide +kernel) rfl) (
  e_more (s_iload_n (k := 2) (by decide +kernel) rfl) (
  e_more (e_call0 (s_callV (c := 5) (idx := 89) k_X5_penceOf (by decide +kernel) cl_X5_penceOf (by decide) rfl wd_1568 wd_1570 wd_46 (by decide) (e_sf_rec rfl))) (
  e_more (s_aload_n (k := 0) (by decide +kernel) rfl) (
  e_more (s_iload_n (k := 1) (by decide +kernel) rfl) (
  e_more (e_call0 (s_callV (c := 5) (idx := 89) k_X5_penceOf (by decide +kernel) cl_X5_penceOf (by decide) rfl wd_1568 wd_1570 wd_46 (by decide) (e_sf_rec rfl))) (
  e_more (s_ic_le (off := 7) (by decide +kernel) (by decide)) (
  e_more (s_iload_n (k := 2) (by decide +kernel) rfl) (
  e_more (s_goto (off := 4) (by decide +kernel) (by decide)) (
  e_more (s_iload_n (k := 1) (by decide +kernel) rfl) (
  e_more (s_istore_n (k := 1) (by decide +kernel) rfl (by decide)) (
  e_more (s_iinc (z := 1) (n := 1) (by decide +kernel) (by decide) (by decide)) (
  e_more (s_goto (off := (-27)) (by decide +kernel) (by decide)) (
  e_more (s_iload_n (k := 1) (by decide +kernel) rfl) (
  e_more (s_jret (by decide +kernel) rfl) (
  e_no_more))))))))))))))))))))))
def w_X5_bestTold : eW := e_sf 13 (e_rn tb_X5_bestTold (iL i_X5_bestTold) 0 0)
theorem k_X5_bestTold : e_OK e_rf i_X5_bestTold 0 0 w_X5_bestTold := k_sf (k_rn (own := RX5) ⟨by decide +kernel, rfl⟩ st_X5_bestTold)
abbrev i_X5_bestMarch : eI := (yX5_bestMarch, cX5_bestMarch, 1, (some .int), 7)
theorem cl_X5_bestMarch : e_Cl i_X5_bestMarch 0 := ⟨wd_1747, wd_82, ⟨by decide, by decide⟩, by decide +kernel, by decide⟩
def tb_X5_bestMarch : eTb := [(0, t_ldO 0 1 0), (1, t_push (.inl 0) 1 1), (2, t_putI 5 8 2), (5, t_ldO 0 1 5), (6, t_call0 1 w_X5_bestTold 6), (9, t_jret)]
theorem st_X5_bestMarch : ∀ x ∈ tb_X5_bestMarch, e_Sd e_rf RX5 i_X5_bestMarch x.1 x.2 :=
  e_more (s_aload_n (k := 0) (by decide +kernel) rfl) (
  e_more (s_iconst (n := 0) (v := 0) (by decide +kernel) (by decide)) (
  e_more (s_putI (c := 5) (j := 8) (idx := 28) (by decide +kernel) (by decide) (by decide) rfl rfl wd_1357) (
  e_more (s_aload_n (k := 0) (by decide +kernel) rfl) (
  e_more (e_call0 (s_callV (c := 5) (idx := 257) k_X5_bestTold (by decide +kernel) cl_X5_bestTold (by decide) rfl wd_1748 wd_1750 wd_67 (by decide) (e_sf_rec rfl))) (
  e_more (s_jret (by decide +kernel) rfl) (
  e_no_more))))))
def w_X5_bestMarch : eW := e_sf 13 (e_rn tb_X5_bestMarch (iL i_X5_bestMarch) 0 0)
theorem k_X5_bestMarch : e_OK e_rf i_X5_bestMarch 0 0 w_X5_bestMarch := k_sf (k_rn (own := RX5) ⟨by decide +kernel, rfl⟩ st_X5_bestMarch)
abbrev i_X5_helpsTold : eI := (yX5_helpsTold, cX5_helpsTold, 6, (some .int), 5)
theorem cl_X5_helpsTold : e_Cl i_X5_helpsTold 2 := ⟨wd_1759, wd_82, ⟨by decide, by decide⟩, by decide +kernel, by decide⟩
def tb_X5_helpsTold_0 : eTb := [(0, t_ldO 0 1 0), (1, t_ldI 1 1 1), (2, t_call0 2 w_X5_lineUp 2), (5, t_stI 3 1 5), (6, t_ldO 0 1 6), (7, t_getR e_rf 5 0 7), (10, t_push (.inl 0) 1 10), (11, t_ldO 0 1 11), (12, t_getR e_rf 5 5 12), (15, t_push (.inl 0) 1 15), (16, t_call0 4 w_X5_copy 16), (19, t_push (.inl 0) 1 19), (20, t_stI 4 2 20), (22, t_ldI 4 2 22), (24, t_ldO 0 1 24), (25, t_getR e_rf 5 0 25), (28, t_ialc 0 1 28), (30, t_ic (fun a b => b ≤ a) 94 30), (33, t_ldO 0 1 33), (34, t_ldI 4 2 34), (36, t_ldI 2 1 36), (37, t_call0 3 w_X5_reasonOfLesson 37), (40, t_ifn (fun a => a = 0) 88 40), (43, t_ldO 0 1 43), (44, t_ldI 4 2 44), (46, t_ldI 2 1 46), (47, t_call0 3 w_X5_doTeach 47), (50, t_pop 50), (51, t_ldO 0 1 51), (52, t_ldI 1 1 52), (53, t_call0 2 w_X5_lineUp 53), (56, t_ldI 3 1 56), (57, t_ic (fun a b => b ≤ a) 64 57), (60, t_push (.inl 1) 1 60), (61, t_goto 65), (64, t_push (.inl 0) 1 64), (65, t_stI 5 2 65), (67, t_ldO 0 1 67), (68, t_getR e_rf 5 5 68), (71, t_push (.inl 0) 1 71)]
theorem st_X5_helpsTold_0 : ∀ x ∈ tb_X5_helpsTold_0, e_Sd e_rf RX5 i_X5_helpsTold x.1 x.2 :=
  e_more (s_aload_n (k := 0) (by decide +kernel) rfl) (
  e_more (s_iload_n (k := 1) (by decide +kernel) rfl) (
  e_more (e_call0 (s_callV (c := 5) (idx := 76) k_X5_lineUp (by decide +kernel) cl_X5_lineUp (by decide) rfl wd_1572 wd_1574 wd_47 (by decide) (e_sf_rec rfl))) (
  e_more (s_istore_n (k := 3) (by decide +kernel) rfl (by decide)) (
  e_more (s_aload_n (k := 0) (by decide +kernel) rfl) (
  e_more (s_getR (c := 5) (j := 0) (idx := 7) (by decide +kernel) (by decide) (by decide) rfl wd_1349) (
  e_more (s_iconst (n := 0) (v := 0) (by decide +kernel) (by decide)) (
  e_more (s_aload_n (k := 0) (by decide +kernel) rfl) (
  e_more (s_getR (c := 5) (j := 5) (idx := 19) (by decide +kernel) (by decide) (by decide) rfl wd_1354) (
  e_more (s_iconst (n := 0) (v := 0) (by decide +kernel) (by decide)) (
  e_more (e_call0 (s_callS (idx := 39) k_X5_copy (by decide +kernel) cl_X5_copy wd_1417 wd_1418 (by decide))) (
  e_more (s_iconst (n := 0) (v := 0) (by decide +kernel) (by decide)) (
  e_more (s_istore (by decide +kernel) (by decide)) (
  e_more (s_iload (by decide +kernel)) (
  e_more (s_aload_n (k := 0) (by decide +kernel) rfl) (
  e_more (s_getR (c := 5) (j := 0) (idx := 7) (by decide +kernel) (by decide) (by decide) rfl wd_1349) (
  e_more (s_ialc (n := 0) (x := 0) (s_iconst (n := 0) (v := 0) (by decide +kernel) (by decide)) (by decide +kernel) (by decide) (by decide)) (
  e_more (s_ic_ge (off := 64) (by decide +kernel) (by decide)) (
  e_more (s_aload_n (k := 0) (by decide +kernel) rfl) (
  e_more (s_iload (by decide +kernel)) (
  e_more (s_iload_n (k := 2) (by decide +kernel) rfl) (
  e_more (e_call0 (s_callV (c := 5) (idx := 108) k_X5_reasonOfLesson (by decide +kernel) cl_X5_reasonOfLesson (by decide) rfl wd_1527 wd_1529 wd_39 (by decide) (e_sf_rec rfl))) (
  e_more (s_if_ne (off := 48) (by decide +kernel) (by decide)) (
  e_more (s_aload_n (k := 0) (by decide +kernel) rfl) (
  e_more (s_iload (by decide +kernel)) (
  e_more (s_iload_n (k := 2) (by decide +kernel) rfl) (
  e_more (e_call0 (s_callV (c := 5) (idx := 148) k_X5_doTeach (by decide +kernel) cl_X5_doTeach (by decide) rfl wd_1542 wd_1544 wd_42 (by decide) (e_sf_rec rfl))) (
  e_more (s_pop (by decide +kernel)) (
  e_more (s_aload_n (k := 0) (by decide +kernel) rfl) (
  e_more (s_iload_n (k := 1) (by decide +kernel) rfl) (
  e_more (e_call0 (s_callV (c := 5) (idx := 76) k_X5_lineUp (by decide +kernel) cl_X5_lineUp (by decide) rfl wd_1572 wd_1574 wd_47 (by decide) (e_sf_rec rfl))) (
  e_more (s_iload_n (k := 3) (by decide +kernel) rfl) (
  e_more (s_ic_ge (off := 7) (by decide +kernel) (by decide)) (
  e_more (s_iconst (n := 1) (v := 1) (by decide +kernel) (by decide)) (
  e_more (s_goto (off := 4) (by decide +kernel) (by decide)) (
  e_more (s_iconst (n := 0) (v := 0) (by decide +kernel) (by decide)) (
  e_more (s_istore (by decide +kernel) (by decide)) (
  e_more (s_aload_n (k := 0) (by decide +kernel) rfl) (
  e_more (s_getR (c := 5) (j := 5) (idx := 19) (by decide +kernel) (by decide) (by decide) rfl wd_1354) (
  e_more (s_iconst (n := 0) (v := 0) (by decide +kernel) (by decide)) (
  e_no_more))))))))))))))))))))))))))))))))))))))))
def tb_X5_helpsTold_1 : eTb := [(72, t_ldO 0 1 72), (73, t_getR e_rf 5 0 73), (76, t_push (.inl 0) 1 76), (77, t_call0 4 w_X5_copy 77), (80, t_ldI 5 2 80), (82, t_if (fun a => a = 0) 88 82), (85, t_ldI 4 2 85), (87, t_jret), (88, t_iinc 4 1 88), (91, t_goto 22), (94, t_push (.inl (-1)) 1 94), (95, t_jret)]
theorem st_X5_helpsTold_1 : ∀ x ∈ tb_X5_helpsTold_1, e_Sd e_rf RX5 i_X5_helpsTold x.1 x.2 :=
  e_more (s_aload_n (k := 0) (by decide +kernel) rfl) (
  e_more (s_getR (c := 5) (j := 0) (idx := 7) (by decide +kernel) (by decide) (by decide) rfl wd_1349) (
  e_more (s_iconst (n := 0) (v := 0) (by decide +kernel) (by decide)) (
  e_more (e_call0 (s_callS (idx := 39) k_X5_copy (by decide +kernel) cl_X5_copy wd_1417 wd_1418 (by decide))) (
  e_more (s_iload (by decide +kernel)) (
  e_more (s_if_eq (off := 6) (by decide +kernel) (by decide)) (
  e_more (s_iload (by decide +kernel)) (
  e_more (s_jret (by decide +kernel) rfl) (
  e_more (s_iinc (z := 1) (n := 1) (by decide +kernel) (by decide) (by decide)) (
  e_more (s_goto (off := (-69)) (by decide +kernel) (by decide)) (
  e_more (s_iconst (n := (-1)) (v := (-1)) (by decide +kernel) (by decide)) (
  e_more (s_jret (by decide +kernel) rfl) (
  e_no_more))))))))))))
def tb_X5_helpsTold : eTb := tb_X5_helpsTold_0 ++ tb_X5_helpsTold_1
theorem st_X5_helpsTold : ∀ x ∈ tb_X5_helpsTold, e_Sd e_rf RX5 i_X5_helpsTold x.1 x.2 := e_app (st_X5_helpsTold_0) st_X5_helpsTold_1
def w_X5_helpsTold : eW := e_sf 13 (e_rn tb_X5_helpsTold (iL i_X5_helpsTold) 0 0)
theorem k_X5_helpsTold : e_OK e_rf i_X5_helpsTold 0 0 w_X5_helpsTold := k_sf (k_rn (own := RX5) ⟨by decide +kernel, rfl⟩ st_X5_helpsTold)
abbrev i_X5_helps : eI := (yX5_helps, cX5_helps, 3, (some .int), 6)
theorem cl_X5_helps : e_Cl i_X5_helps 2 := ⟨wd_1755, wd_82, ⟨by decide, by decide⟩, by decide +kernel, by decide⟩
def tb_X5_helps : eTb := [(0, t_ldO 0 1 0), (1, t_ldI 1 1 1), (2, t_call0 1 w_X5_isMarch 2), (5, t_if (fun a => a = 0) 19 5), (8, t_ldI 2 1 8), (9, t_call0 1 w_X5_isTeacher 9), (12, t_if (fun a => a = 0) 19 12), (15, t_push (.inl 0) 1 15), (16, t_goto 20), (19, t_push (.inl 1) 1 19), (20, t_call0 2 w_X5_holds 20), (23, t_if (fun a => a = 0) 35 23), (26, t_ldO 0 1 26), (27, t_ldI 1 1 27), (28, t_ldI 2 1 28), (29, t_call0 3 w_X5_helpsTold 29), (32, t_goto 36), (35, t_push (.inl 0) 1 35), (36, t_jret)]
theorem st_X5_helps : ∀ x ∈ tb_X5_helps, e_Sd e_rf RX5 i_X5_helps x.1 x.2 :=
  e_more (s_aload_n (k := 0) (by decide +kernel) rfl) (
  e_more (s_iload_n (k := 1) (by decide +kernel) rfl) (
  e_more (e_call0 (s_callS (idx := 111) k_X5_isMarch (by decide +kernel) cl_X5_isMarch wd_1557 wd_1558 (by decide))) (
  e_more (s_if_eq (off := 14) (by decide +kernel) (by decide)) (
  e_more (s_iload_n (k := 2) (by decide +kernel) rfl) (
  e_more (e_call0 (s_callS (idx := 105) k_X5_isTeacher (by decide +kernel) cl_X5_isTeacher wd_1524 wd_1525 (by decide))) (
  e_more (s_if_eq (off := 7) (by decide +kernel) (by decide)) (
  e_more (s_iconst (n := 0) (v := 0) (by decide +kernel) (by decide)) (
  e_more (s_goto (off := 4) (by decide +kernel) (by decide)) (
  e_more (s_iconst (n := 1) (v := 1) (by decide +kernel) (by decide)) (
  e_more (e_call0 (s_callV (c := 5) (idx := 118) k_X5_holds (by decide +kernel) cl_X5_holds (by decide) rfl wd_1409 wd_1411 wd_20 (by decide) (e_sf_rec rfl))) (
  e_more (s_if_eq (off := 12) (by decide +kernel) (by decide)) (
  e_more (s_aload_n (k := 0) (by decide +kernel) rfl) (
  e_more (s_iload_n (k := 1) (by decide +kernel) rfl) (
  e_more (s_iload_n (k := 2) (by decide +kernel) rfl) (
  e_more (e_call0 (s_callV (c := 5) (idx := 260) k_X5_helpsTold (by decide +kernel) cl_X5_helpsTold (by decide) rfl wd_1756 wd_1758 wd_68 (by decide) (e_sf_rec rfl))) (
  e_more (s_goto (off := 4) (by decide +kernel) (by decide)) (
  e_more (s_iconst (n := 0) (v := 0) (by decide +kernel) (by decide)) (
  e_more (s_jret (by decide +kernel) rfl) (
  e_no_more)))))))))))))))))))
def w_X5_helps : eW := e_sf 13 (e_rn tb_X5_helps (iL i_X5_helps) 0 0)
theorem k_X5_helps : e_OK e_rf i_X5_helps 0 0 w_X5_helps := k_sf (k_rn (own := RX5) ⟨by decide +kernel, rfl⟩ st_X5_helps)
abbrev i_X5_shareTold : eI := (yX5_shareTold, cX5_shareTold, 2, (some .double), 0)
theorem cl_X5_shareTold : e_Cl i_X5_shareTold 0 := ⟨wd_1767, wd_82, ⟨by decide, by decide⟩, by decide +kernel, by decide⟩
def tb_X5_shareTold : eTb := [(0, t_push (.inl 4) 1 0), (1, t_ldO 0 1 1), (2, t_getR e_rf 5 0 2), (5, t_ialc 6 2 5), (8, t_ii (fun a b => a * b) 8), (9, t_stI 1 1 9), (10, t_ldI 1 1 10), (11, t_ifn (fun a => a = 0) 18 11), (14, t_push (.inr (.inr (.inl 4607182418800017408))) 1 14), (15, t_goto 31), (18, t_ldI 1 1 18), (19, t_ldO 0 1 19), (20, t_getR e_rf 5 0 20), (23, t_ialc 7 2 23), (26, t_ii (fun a b => a - b) 26), (27, t_i1 (fun a => .inr (.inr (.inl (FP.i2d a)))) 27), (28, t_ldI 1 1 28), (29, t_i1 (fun a => .inr (.inr (.inl (FP.i2d a)))) 29), (30, t_dd FP.ddiv 30), (31, t_dret)]
theorem st_X5_shareTold : ∀ x ∈ tb_X5_shareTold, e_Sd e_rf RX5 i_X5_shareTold x.1 x.2 :=
  e_more (s_iconst (n := 4) (v := 4) (by decide +kernel) (by decide)) (
  e_more (s_aload_n (k := 0) (by decide +kernel) rfl) (
  e_more (s_getR (c := 5) (j := 0) (idx := 7) (by decide +kernel) (by decide) (by decide) rfl wd_1349) (
  e_more (s_ialc (n := 6) (x := 6) (s_bipush (n := 6) (v := 6) (by decide +kernel) (by decide)) (by decide +kernel) (by decide) (by decide)) (
  e_more (s_imul (by decide +kernel)) (
  e_more (s_istore_n (k := 1) (by decide +kernel) rfl (by decide)) (
  e_more (s_iload_n (k := 1) (by decide +kernel) rfl) (
  e_more (s_if_ne (off := 7) (by decide +kernel) (by decide)) (
  e_more (s_dconst1 (by decide +kernel)) (
  e_more (s_goto (off := 16) (by decide +kernel) (by decide)) (
  e_more (s_iload_n (k := 1) (by decide +kernel) rfl) (
  e_more (s_aload_n (k := 0) (by decide +kernel) rfl) (
  e_more (s_getR (c := 5) (j := 0) (idx := 7) (by decide +kernel) (by decide) (by decide) rfl wd_1349) (
  e_more (s_ialc (n := 7) (x := 7) (s_bipush (n := 7) (v := 7) (by decide +kernel) (by decide)) (by decide +kernel) (by decide) (by decide)) (
  e_more (s_isub (by decide +kernel)) (
  e_more (s_i2d (by decide +kernel)) (
  e_more (s_iload_n (k := 1) (by decide +kernel) rfl) (
  e_more (s_i2d (by decide +kernel)) (
  e_more (s_ddiv (by decide +kernel)) (
  e_more (s_dret (by decide +kernel) rfl) (
  e_no_more))))))))))))))))))))
def w_X5_shareTold : eW := e_sf 13 (e_rn tb_X5_shareTold (iL i_X5_shareTold) 0 0)
theorem k_X5_shareTold : e_OK e_rf i_X5_shareTold 0 0 w_X5_shareTold := k_sf (k_rn (own := RX5) ⟨by decide +kernel, rfl⟩ st_X5_shareTold)
abbrev i_X5_played : eI := (yX5_played, cX5_played, 1, (some .double), 1)
theorem cl_X5_played : e_Cl i_X5_played 0 := ⟨wd_1763, wd_82, ⟨by decide, by decide⟩, by decide +kernel, by decide⟩
def tb_X5_played : eTb := [(0, t_ldO 0 1 0), (1, t_push (.inl 0) 1 1), (2, t_putI 5 8 2), (5, t_ldO 0 1 5), (6, t_call0 1 w_X5_shareTold 6), (9, t_dret)]
theorem st_X5_played : ∀ x ∈ tb_X5_played, e_Sd e_rf RX5 i_X5_played x.1 x.2 :=
  e_more (s_aload_n (k := 0) (by decide +kernel) rfl) (
  e_more (s_iconst (n := 0) (v := 0) (by decide +kernel) (by decide)) (
  e_more (s_putI (c := 5) (j := 8) (idx := 28) (by decide +kernel) (by decide) (by decide) rfl rfl wd_1357) (
  e_more (s_aload_n (k := 0) (by decide +kernel) rfl) (
  e_more (e_call0 (s_callV (c := 5) (idx := 263) k_X5_shareTold (by decide +kernel) cl_X5_shareTold (by decide) rfl wd_1764 wd_1766 wd_69 (by decide) (e_sf_rec rfl))) (
  e_more (s_dret (by decide +kernel) rfl) (
  e_no_more))))))
def w_X5_played : eW := e_sf 13 (e_rn tb_X5_played (iL i_X5_played) 0 0)
theorem k_X5_played : e_OK e_rf i_X5_played 0 0 w_X5_played := k_sf (k_rn (own := RX5) ⟨by decide +kernel, rfl⟩ st_X5_played)
abbrev i_X5_bitsOf : eI := (yX5_bitsOf, cX5_bitsOf, 6, (some .long), 0)
theorem cl_X5_bitsOf : e_Cl i_X5_bitsOf 1 := ⟨wd_1784, wd_82, ⟨by decide, by decide⟩, by decide +kernel, by decide⟩
def tb_X5_bitsOf : eTb := [(0, t_ldD 0 1 0), (1, t_push (.inr (.inr (.inl 0))) 1 1), (2, t_dc (fun a b => Op.cmpValue (FP.dcmp a b) .l) 2), (3, t_ifn (fun a => a = 0) 8 3), (6, t_push (.inr (.inl 0)) 1 6), (7, t_lret), (8, t_push (.inr (.inl 1023)) 3 8), (11, t_stL 2 1 11), (12, t_ldD 0 1 12), (13, t_stD 4 2 13), (15, t_ldD 4 2 15), (17, t_push (.inr (.inr (.inl 4607182418800017408))) 1 17), (18, t_dc (fun a b => Op.cmpValue (FP.dcmp a b) .g) 18), (19, t_if (fun a => 0 ≤ a) 37 19), (22, t_ldD 4 2 22), (24, t_push (.inr (.inr (.inl 4611686018427387904))) 3 24), (27, t_dd FP.dmul 27), (28, t_stD 4 2 28), (30, t_ldL 2 1 30), (31, t_push (.inr (.inl 1)) 1 31), (32, t_ll (fun a b => .inr (.inl (a - b))) 32), (33, t_stL 2 1 33), (34, t_goto 15), (37, t_ldL 2 1 37), (38, t_push (.inr (.inl 4503599627370496)) 3 38), (41, t_ll (fun a b => .inr (.inl (a * b))) 41), (42, t_ldD 4 2 42), (44, t_push (.inr (.inr (.inl 4607182418800017408))) 1 44), (45, t_dd FP.dsub 45), (46, t_push (.inr (.inr (.inl 4841369599423283200))) 3 46), (49, t_dd FP.dmul 49), (50, t_d1 (fun a => .inr (.inl (FP.d2l a))) 50), (51, t_ll (fun a b => .inr (.inl (a + b))) 51), (52, t_lret)]
theorem st_X5_bitsOf : ∀ x ∈ tb_X5_bitsOf, e_Sd e_rf RX5 i_X5_bitsOf x.1 x.2 :=
  e_more (s_dload_n (k := 0) (by decide +kernel) rfl) (
  e_more (s_dconst0 (by decide +kernel)) (
  e_more (s_dcmp (op := .l) (by decide +kernel)) (
  e_more (s_if_ne (off := 5) (by decide +kernel) (by decide)) (
  e_more (s_lconst (n := 0) (v := 0) (by decide +kernel) (by decide)) (
  e_more (s_lret (by decide +kernel) rfl) (
  e_more (s_ldc2 (i := 267) (v := 1023) (by decide +kernel) wd_1785) (
  e_more (s_lstore_n (k := 2) (by decide +kernel) rfl (by decide)) (
  e_more (s_dload_n (k := 0) (by decide +kernel) rfl) (
  e_more (s_dstore (by decide +kernel) (by decide)) (
  e_more (s_dload (by decide +kernel)) (
  e_more (s_dconst1 (by decide +kernel)) (
  e_more (s_dcmp (op := .g) (by decide +kernel)) (
  e_more (s_if_ge (off := 18) (by decide +kernel) (by decide)) (
  e_more (s_dload (by decide +kernel)) (
  e_more (s_ldc2d (i := 269) (v := 4611686018427387904) (by decide +kernel) wd_1786) (
  e_more (s_dmul (by decide +kernel)) (
  e_more (s_dstore (by decide +kernel) (by decide)) (
  e_more (s_lload_n (k := 2) (by decide +kernel) rfl) (
  e_more (s_lconst (n := 1) (v := 1) (by decide +kernel) (by decide)) (
  e_more (s_lsub (by decide +kernel)) (
  e_more (s_lstore_n (k := 2) (by decide +kernel) rfl (by decide)) (
  e_more (s_goto (off := (-19)) (by decide +kernel) (by decide)) (
  e_more (s_lload_n (k := 2) (by decide +kernel) rfl) (
  e_more (s_ldc2 (i := 271) (v := 4503599627370496) (by decide +kernel) wd_1787) (
  e_more (s_lmul (by decide +kernel)) (
  e_more (s_dload (by decide +kernel)) (
  e_more (s_dconst1 (by decide +kernel)) (
  e_more (s_dsub (by decide +kernel)) (
  e_more (s_ldc2d (i := 273) (v := 4841369599423283200) (by decide +kernel) wd_1788) (
  e_more (s_dmul (by decide +kernel)) (
  e_more (s_d2l (by decide +kernel)) (
  e_more (s_ladd (by decide +kernel)) (
  e_more (s_lret (by decide +kernel) rfl) (
  e_no_more))))))))))))))))))))))))))))))))))
def w_X5_bitsOf : eW := e_rn tb_X5_bitsOf (iL i_X5_bitsOf) 0 0
theorem k_X5_bitsOf : e_OK e_rf i_X5_bitsOf 0 0 w_X5_bitsOf := k_rn (own := RX5) ⟨by decide +kernel, rfl⟩ st_X5_bitsOf
