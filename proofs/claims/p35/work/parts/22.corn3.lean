/-! BandCornets, piece 3: tables and readings, by program. Own work. -/
abbrev i_X4_tellLineUp : eI := (yX4_tellLineUp, cX4_tellLineUp, 4, none, 6)
theorem cl_X4_tellLineUp : e_Cl i_X4_tellLineUp 1 := ⟨wd_438, wd_15, ⟨by decide, by decide⟩, by decide +kernel, by decide⟩
def tb_X4_tellLineUp_0 : eTb := [(0, t_ldO 0 1 0), (1, t_ldI 1 1 1), (2, t_call0 2 w_X4_fillLineUp 2), (5, t_pop 5), (6, t_ldO 0 1 6), (7, t_getR e_rf 4 7 7), (10, t_push (.inl 0) 1 10), (11, t_call0 2 w_J4_setLength_d00df 11), (14, t_push (.inl 0) 1 14), (15, t_stI 2 1 15), (16, t_ldI 2 1 16), (17, t_push (.inl 4) 1 17), (18, t_ic (fun a b => b ≤ a) 100 18), (21, t_ldI 2 1 21), (22, t_if (fun a => a ≤ 0) 35 22), (25, t_ldO 0 1 25), (26, t_getR e_rf 4 7 26), (29, t_push (.inl 44) 2 29), (31, t_call 2 1 70 w_J4_append_cf468 31), (34, t_pop 34), (35, t_ldO 0 1 35), (36, t_getR e_rf 4 7 36), (39, t_ldI 1 1 39), (40, t_ldI 2 1 40), (41, t_call0 2 w_X4_kindOfPart 41), (44, t_call0 1 w_X4_nameOf 44), (47, t_call 2 1 70 w_J4_append_15ec4 47), (50, t_pop 50), (51, t_ldO 0 1 51), (52, t_getR e_rf 4 7 52), (55, t_push (.inl 58) 2 55), (57, t_call 2 1 70 w_J4_append_cf468 57), (60, t_pop 60), (61, t_ldO 0 1 61), (62, t_ldI 2 1 62), (63, t_call0 2 w_X4_playerOf 63), (66, t_stI 3 1 66), (67, t_ldI 3 1 67), (68, t_push (.inl (-1)) 1 68), (69, t_icn (fun a b => a = b) 85 69)]
theorem st_X4_tellLineUp_0 : ∀ x ∈ tb_X4_tellLineUp_0, e_Sd e_rf RX4 i_X4_tellLineUp x.1 x.2 :=
  e_more (s_aload_n (k := 0) (by decide +kernel) rfl) (
  e_more (s_iload_n (k := 1) (by decide +kernel) rfl) (
  e_more (e_call0 (s_callV (c := 4) (idx := 279) k_X4_fillLineUp (by decide +kernel) cl_X4_fillLineUp (by decide) rfl wd_371 wd_373 wd_3 (by decide) (e_sf_rec rfl))) (
  e_more (s_pop (by decide +kernel)) (
  e_more (s_aload_n (k := 0) (by decide +kernel) rfl) (
  e_more (s_getR (c := 4) (j := 7) (idx := 45) (by decide +kernel) (by decide) (by decide) rfl wd_232) (
  e_more (s_iconst (n := 0) (v := 0) (by decide +kernel) (by decide)) (
  e_more (e_call0 (s_callV (c := 6) (idx := 399) k_J4_setLength_d00df (by decide +kernel) cl_J4_setLength_d00df (by decide) rfl wd_439 wd_440 wd_441 (by decide) (e_sf_rec rfl))) (
  e_more (s_iconst (n := 0) (v := 0) (by decide +kernel) (by decide)) (
  e_more (s_istore_n (k := 2) (by decide +kernel) rfl (by decide)) (
  e_more (s_iload_n (k := 2) (by decide +kernel) rfl) (
  e_more (s_iconst (n := 4) (v := 4) (by decide +kernel) (by decide)) (
  e_more (s_ic_ge (off := 82) (by decide +kernel) (by decide)) (
  e_more (s_iload_n (k := 2) (by decide +kernel) rfl) (
  e_more (s_if_le (off := 13) (by decide +kernel) (by decide)) (
  e_more (s_aload_n (k := 0) (by decide +kernel) rfl) (
  e_more (s_getR (c := 4) (j := 7) (idx := 45) (by decide +kernel) (by decide) (by decide) rfl wd_232) (
  e_more (s_bipush (n := 44) (v := 44) (by decide +kernel) (by decide)) (
  e_more (s_callV (c := 6) (idx := 402) k_J4_append_cf468 (by decide +kernel) cl_J4_append_cf468 (by decide) rfl wd_701 wd_702 wd_703 (by decide) (e_sf_rec rfl)) (
  e_more (s_pop (by decide +kernel)) (
  e_more (s_aload_n (k := 0) (by decide +kernel) rfl) (
  e_more (s_getR (c := 4) (j := 7) (idx := 45) (by decide +kernel) (by decide) (by decide) rfl wd_232) (
  e_more (s_iload_n (k := 1) (by decide +kernel) rfl) (
  e_more (s_iload_n (k := 2) (by decide +kernel) rfl) (
  e_more (e_call0 (s_callS (idx := 331) k_X4_kindOfPart (by decide +kernel) cl_X4_kindOfPart wd_346 wd_347 (by decide))) (
  e_more (e_call0 (s_callS (idx := 406) k_X4_nameOf (by decide +kernel) cl_X4_nameOf wd_723 wd_724 (by decide))) (
  e_more (s_callV (c := 6) (idx := 410) k_J4_append_15ec4 (by decide +kernel) cl_J4_append_15ec4 (by decide) rfl wd_730 wd_455 wd_456 (by decide) (e_sf_rec rfl)) (
  e_more (s_pop (by decide +kernel)) (
  e_more (s_aload_n (k := 0) (by decide +kernel) rfl) (
  e_more (s_getR (c := 4) (j := 7) (idx := 45) (by decide +kernel) (by decide) (by decide) rfl wd_232) (
  e_more (s_bipush (n := 58) (v := 58) (by decide +kernel) (by decide)) (
  e_more (s_callV (c := 6) (idx := 402) k_J4_append_cf468 (by decide +kernel) cl_J4_append_cf468 (by decide) rfl wd_701 wd_702 wd_703 (by decide) (e_sf_rec rfl)) (
  e_more (s_pop (by decide +kernel)) (
  e_more (s_aload_n (k := 0) (by decide +kernel) rfl) (
  e_more (s_iload_n (k := 2) (by decide +kernel) rfl) (
  e_more (e_call0 (s_callV (c := 4) (idx := 340) k_X4_playerOf (by decide +kernel) cl_X4_playerOf (by decide) rfl wd_426 wd_428 wd_7 (by decide) (e_sf_rec rfl))) (
  e_more (s_istore_n (k := 3) (by decide +kernel) rfl (by decide)) (
  e_more (s_iload_n (k := 3) (by decide +kernel) rfl) (
  e_more (s_iconst (n := (-1)) (v := (-1)) (by decide +kernel) (by decide)) (
  e_more (s_ic_ne (off := 16) (by decide +kernel) (by decide)) (
  e_no_more))))))))))))))))))))))))))))))))))))))))
def tb_X4_tellLineUp_1 : eTb := [(72, t_ldO 0 1 72), (73, t_getR e_rf 4 7 73), (76, t_push (.inl 45) 2 76), (78, t_call 2 1 70 w_J4_append_cf468 78), (81, t_pop 81), (82, t_goto 94), (85, t_ldO 0 1 85), (86, t_getR e_rf 4 7 86), (89, t_ldI 3 1 89), (90, t_call 2 1 70 w_J4_append_bf812 90), (93, t_pop 93), (94, t_iinc 2 1 94), (97, t_goto 16), (100, t_ret)]
theorem st_X4_tellLineUp_1 : ∀ x ∈ tb_X4_tellLineUp_1, e_Sd e_rf RX4 i_X4_tellLineUp x.1 x.2 :=
  e_more (s_aload_n (k := 0) (by decide +kernel) rfl) (
  e_more (s_getR (c := 4) (j := 7) (idx := 45) (by decide +kernel) (by decide) (by decide) rfl wd_232) (
  e_more (s_bipush (n := 45) (v := 45) (by decide +kernel) (by decide)) (
  e_more (s_callV (c := 6) (idx := 402) k_J4_append_cf468 (by decide +kernel) cl_J4_append_cf468 (by decide) rfl wd_701 wd_702 wd_703 (by decide) (e_sf_rec rfl)) (
  e_more (s_pop (by decide +kernel)) (
  e_more (s_goto (off := 12) (by decide +kernel) (by decide)) (
  e_more (s_aload_n (k := 0) (by decide +kernel) rfl) (
  e_more (s_getR (c := 4) (j := 7) (idx := 45) (by decide +kernel) (by decide) (by decide) rfl wd_232) (
  e_more (s_iload_n (k := 3) (by decide +kernel) rfl) (
  e_more (s_callV (c := 6) (idx := 413) k_J4_append_bf812 (by decide +kernel) cl_J4_append_bf812 (by decide) rfl wd_731 wd_573 wd_574 (by decide) (e_sf_rec rfl)) (
  e_more (s_pop (by decide +kernel)) (
  e_more (s_iinc (z := 1) (n := 1) (by decide +kernel) (by decide) (by decide)) (
  e_more (s_goto (off := (-81)) (by decide +kernel) (by decide)) (
  e_more (s_ret (by decide +kernel) rfl) (
  e_no_more))))))))))))))
def tb_X4_tellLineUp : eTb := tb_X4_tellLineUp_0 ++ tb_X4_tellLineUp_1
theorem st_X4_tellLineUp : ∀ x ∈ tb_X4_tellLineUp, e_Sd e_rf RX4 i_X4_tellLineUp x.1 x.2 := e_app (st_X4_tellLineUp_0) st_X4_tellLineUp_1
def w_X4_tellLineUp : eW := e_sf 0 (e_rn tb_X4_tellLineUp (iL i_X4_tellLineUp) 15 1050)
theorem k_X4_tellLineUp : e_OK e_rf i_X4_tellLineUp 15 1050 w_X4_tellLineUp := k_sf (k_rn (own := RX4) ⟨by decide +kernel, rfl⟩ st_X4_tellLineUp)
abbrev i_X4_told : eI := (yX4_told, cX4_told, 3, (some .int), 10)
theorem cl_X4_told : e_Cl i_X4_told 2 := ⟨wd_433, wd_15, ⟨by decide, by decide⟩, by decide +kernel, by decide⟩
def tb_X4_told : eTb := [(0, t_ldI 1 1 0), (1, t_call0 1 w_X4_isMarch 1), (4, t_ifn (fun a => a = 0) 17 4), (7, t_throw "java/lang/IndexOutOfBoundsException"), (17, t_ldI 2 1 17), (18, t_if (fun a => 0 ≤ a) 31 18), (21, t_throw "java/lang/IllegalArgumentException"), (31, t_ldO 0 1 31), (32, t_ldI 1 1 32), (33, t_call 2 15 1050 w_X4_tellLineUp 33), (36, t_ldI 2 1 36), (37, t_ldO 0 1 37), (38, t_getR e_rf 4 7 38), (41, t_call0 1 w_J4_length_8abf5 41), (44, t_ic (fun a b => b ≤ a) 58 44), (47, t_ldO 0 1 47), (48, t_getR e_rf 4 7 48), (51, t_ldI 2 1 51), (52, t_call0 2 w_J4_charAt_5068e 52), (55, t_goto 59), (58, t_push (.inl (-1)) 1 58), (59, t_jret)]
theorem st_X4_told : ∀ x ∈ tb_X4_told, e_Sd e_rf RX4 i_X4_told x.1 x.2 :=
  e_more (s_iload_n (k := 1) (by decide +kernel) rfl) (
  e_more (e_call0 (s_callS (idx := 194) k_X4_isMarch (by decide +kernel) cl_X4_isMarch wd_254 wd_255 (by decide))) (
  e_more (s_if_ne (off := 13) (by decide +kernel) (by decide)) (
  e_more (s_throw (text := "no such march") (ik := 90) (is := 197) (ic := 94) ⟨rfl, by decide⟩ ⟨by decide +kernel, wd_257, wd_28, by decide +kernel, xat_94, by decide +kernel, by decide +kernel, (Or.inl ⟨by decide +kernel, by decide +kernel, by decide +kernel⟩)⟩) (
  e_more (s_iload_n (k := 2) (by decide +kernel) rfl) (
  e_more (s_if_ge (off := 13) (by decide +kernel) (by decide)) (
  e_more (s_throw (text := "an index is 0 or more") (ik := 49) (is := 235) (ic := 53) ⟨rfl, by decide⟩ ⟨by decide +kernel, wd_406, wd_27, by decide +kernel, xat_53, by decide +kernel, by decide +kernel, (Or.inl ⟨by decide +kernel, by decide +kernel, by decide +kernel⟩)⟩) (
  e_more (s_aload_n (k := 0) (by decide +kernel) rfl) (
  e_more (s_iload_n (k := 1) (by decide +kernel) rfl) (
  e_more (s_callV (c := 4) (idx := 237) k_X4_tellLineUp (by decide +kernel) cl_X4_tellLineUp (by decide) rfl wd_435 wd_437 wd_8 (by decide) (e_sf_rec rfl)) (
  e_more (s_iload_n (k := 2) (by decide +kernel) rfl) (
  e_more (s_aload_n (k := 0) (by decide +kernel) rfl) (
  e_more (s_getR (c := 4) (j := 7) (idx := 45) (by decide +kernel) (by decide) (by decide) rfl wd_232) (
  e_more (e_call0 (s_callV (c := 6) (idx := 240) k_J4_length_8abf5 (by decide +kernel) cl_J4_length_8abf5 (by decide) rfl wd_732 wd_619 wd_1120 (by decide) (e_sf_rec rfl))) (
  e_more (s_ic_ge (off := 14) (by decide +kernel) (by decide)) (
  e_more (s_aload_n (k := 0) (by decide +kernel) rfl) (
  e_more (s_getR (c := 4) (j := 7) (idx := 45) (by decide +kernel) (by decide) (by decide) rfl wd_232) (
  e_more (s_iload_n (k := 2) (by decide +kernel) rfl) (
  e_more (e_call0 (s_callV (c := 6) (idx := 241) k_J4_charAt_5068e (by decide +kernel) cl_J4_charAt_5068e (by decide) rfl wd_733 wd_734 wd_735 (by decide) (e_sf_rec rfl))) (
  e_more (s_goto (off := 4) (by decide +kernel) (by decide)) (
  e_more (s_iconst (n := (-1)) (v := (-1)) (by decide +kernel) (by decide)) (
  e_more (s_jret (by decide +kernel) rfl) (
  e_no_more))))))))))))))))))))))
def x_X4_told : eWX := e_sfx 0 (e_rnx tb_X4_told (iL i_X4_told) 16 1056)
theorem kx_X4_told : e_OX e_rf i_X4_told 16 1056 x_X4_told := kx_sf (kx_rn (own := RX4) ⟨by decide +kernel, rfl⟩ st_X4_told)
