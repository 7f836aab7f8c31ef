/-! BandCornets, piece 1: tables and readings, by program. Own work. -/
abbrev i_J6_bitCount_0f7a4 : eI := (yJ6_bitCount_0f7a4, cJ6_bitCount_0f7a4, 1, (some .int), 0)
theorem cl_J6_bitCount_0f7a4 : e_Cl i_J6_bitCount_0f7a4 1 := ⟨wd_360, wd_29, ⟨by decide, by decide⟩, by decide +kernel, by decide⟩
def tb_J6_bitCount_0f7a4_0 : eTb := [(0, t_ldI 0 1 0), (1, t_ldI 0 1 1), (2, t_push (.inl 1) 1 2), (3, t_ii (fun a b => (a.toUInt32 >>> (b.toUInt32 &&& Int32.toUInt32 31)).toInt32) 3), (4, t_push (.inl 1431655765) 3 4), (7, t_ii (fun a b => a &&& b) 7), (8, t_ii (fun a b => a - b) 8), (9, t_stI 0 1 9), (10, t_ldI 0 1 10), (11, t_push (.inl 858993459) 3 11), (14, t_ii (fun a b => a &&& b) 14), (15, t_ldI 0 1 15), (16, t_push (.inl 2) 1 16), (17, t_ii (fun a b => (a.toUInt32 >>> (b.toUInt32 &&& Int32.toUInt32 31)).toInt32) 17), (18, t_push (.inl 858993459) 3 18), (21, t_ii (fun a b => a &&& b) 21), (22, t_ii (fun a b => a + b) 22), (23, t_stI 0 1 23), (24, t_ldI 0 1 24), (25, t_ldI 0 1 25), (26, t_push (.inl 4) 1 26), (27, t_ii (fun a b => (a.toUInt32 >>> (b.toUInt32 &&& Int32.toUInt32 31)).toInt32) 27), (28, t_ii (fun a b => a + b) 28), (29, t_push (.inl 252645135) 3 29), (32, t_ii (fun a b => a &&& b) 32), (33, t_stI 0 1 33), (34, t_ldI 0 1 34), (35, t_ldI 0 1 35), (36, t_push (.inl 8) 2 36), (38, t_ii (fun a b => (a.toUInt32 >>> (b.toUInt32 &&& Int32.toUInt32 31)).toInt32) 38), (39, t_ii (fun a b => a + b) 39), (40, t_stI 0 1 40), (41, t_ldI 0 1 41), (42, t_ldI 0 1 42), (43, t_push (.inl 16) 2 43), (45, t_ii (fun a b => (a.toUInt32 >>> (b.toUInt32 &&& Int32.toUInt32 31)).toInt32) 45), (46, t_ii (fun a b => a + b) 46), (47, t_stI 0 1 47), (48, t_ldI 0 1 48), (49, t_push (.inl 63) 2 49)]
theorem st_J6_bitCount_0f7a4_0 : ∀ x ∈ tb_J6_bitCount_0f7a4_0, e_Sd e_rf RJ6 i_J6_bitCount_0f7a4 x.1 x.2 :=
  e_more (s_iload_n (k := 0) (by decide +kernel) rfl) (
  e_more (s_iload_n (k := 0) (by decide +kernel) rfl) (
  e_more (s_iconst (n := 1) (v := 1) (by decide +kernel) (by decide)) (
  e_more (s_iushr (by decide +kernel)) (
  e_more (s_ldcw (i := 265) (v := 1431655765) (by decide +kernel) wd_361) (
  e_more (s_iand (by decide +kernel)) (
  e_more (s_isub (by decide +kernel)) (
  e_more (s_istore_n (k := 0) (by decide +kernel) rfl (by decide)) (
  e_more (s_iload_n (k := 0) (by decide +kernel) rfl) (
  e_more (s_ldcw (i := 266) (v := 858993459) (by decide +kernel) wd_362) (
  e_more (s_iand (by decide +kernel)) (
  e_more (s_iload_n (k := 0) (by decide +kernel) rfl) (
  e_more (s_iconst (n := 2) (v := 2) (by decide +kernel) (by decide)) (
  e_more (s_iushr (by decide +kernel)) (
  e_more (s_ldcw (i := 266) (v := 858993459) (by decide +kernel) wd_362) (
  e_more (s_iand (by decide +kernel)) (
  e_more (s_iadd (by decide +kernel)) (
  e_more (s_istore_n (k := 0) (by decide +kernel) rfl (by decide)) (
  e_more (s_iload_n (k := 0) (by decide +kernel) rfl) (
  e_more (s_iload_n (k := 0) (by decide +kernel) rfl) (
  e_more (s_iconst (n := 4) (v := 4) (by decide +kernel) (by decide)) (
  e_more (s_iushr (by decide +kernel)) (
  e_more (s_iadd (by decide +kernel)) (
  e_more (s_ldcw (i := 267) (v := 252645135) (by decide +kernel) wd_363) (
  e_more (s_iand (by decide +kernel)) (
  e_more (s_istore_n (k := 0) (by decide +kernel) rfl (by decide)) (
  e_more (s_iload_n (k := 0) (by decide +kernel) rfl) (
  e_more (s_iload_n (k := 0) (by decide +kernel) rfl) (
  e_more (s_bipush (n := 8) (v := 8) (by decide +kernel) (by decide)) (
  e_more (s_iushr (by decide +kernel)) (
  e_more (s_iadd (by decide +kernel)) (
  e_more (s_istore_n (k := 0) (by decide +kernel) rfl (by decide)) (
  e_more (s_iload_n (k := 0) (by decide +kernel) rfl) (
  e_more (s_iload_n (k := 0) (by decide +kernel) rfl) (
  e_more (s_bipush (n := 16) (v := 16) (by decide +kernel) (by decide)) (
  e_more (s_iushr (by decide +kernel)) (
  e_more (s_iadd (by decide +kernel)) (
  e_more (s_istore_n (k := 0) (by decide +kernel) rfl (by decide)) (
  e_more (s_iload_n (k := 0) (by decide +kernel) rfl) (
  e_more (s_bipush (n := 63) (v := 63) (by decide +kernel) (by decide)) (
  e_no_more))))))))))))))))))))))))))))))))))))))))
def tb_J6_bitCount_0f7a4_1 : eTb := [(51, t_ii (fun a b => a &&& b) 51), (52, t_jret)]
theorem st_J6_bitCount_0f7a4_1 : ∀ x ∈ tb_J6_bitCount_0f7a4_1, e_Sd e_rf RJ6 i_J6_bitCount_0f7a4 x.1 x.2 :=
  e_more (s_iand (by decide +kernel)) (
  e_more (s_jret (by decide +kernel) rfl) (
  e_no_more))
def tb_J6_bitCount_0f7a4 : eTb := tb_J6_bitCount_0f7a4_0 ++ tb_J6_bitCount_0f7a4_1
theorem st_J6_bitCount_0f7a4 : ∀ x ∈ tb_J6_bitCount_0f7a4, e_Sd e_rf RJ6 i_J6_bitCount_0f7a4 x.1 x.2 := e_app (st_J6_bitCount_0f7a4_0) st_J6_bitCount_0f7a4_1
def w_J6_bitCount_0f7a4 : eW := e_rn tb_J6_bitCount_0f7a4 (iL i_J6_bitCount_0f7a4) 0 0
theorem k_J6_bitCount_0f7a4 : e_OK e_rf i_J6_bitCount_0f7a4 0 0 w_J6_bitCount_0f7a4 := k_rn (own := RJ6) ⟨by decide +kernel, rfl⟩ st_J6_bitCount_0f7a4
abbrev i_X4_save : eI := (yX4_save, cX4_save, 3, none, 2)
theorem cl_X4_save : e_Cl i_X4_save 0 := ⟨wd_903, wd_15, ⟨by decide, by decide⟩, by decide +kernel, by decide⟩
def tb_X4_save_0 : eTb := [(0, t_ldO 0 1 0), (1, t_getI 4 4 1), (4, t_push (.inl 6) 2 4), (6, t_ic (fun a b => a < b) 56 6), (9, t_ldO 0 1 9), (10, t_getR e_rf 4 3 10), (13, t_push (.inl 0) 1 13), (14, t_aald e_rf 5 14), (15, t_stO 1 1 15), (16, t_push (.inl 1) 1 16), (17, t_stI 2 1 17), (18, t_ldI 2 1 18), (19, t_push (.inl 6) 2 19), (21, t_ic (fun a b => b ≤ a) 44 21), (24, t_ldO 0 1 24), (25, t_getR e_rf 4 3 25), (28, t_ldI 2 1 28), (29, t_push (.inl 1) 1 29), (30, t_ii (fun a b => a - b) 30), (31, t_ldO 0 1 31), (32, t_getR e_rf 4 3 32), (35, t_ldI 2 1 35), (36, t_aald e_rf 5 36), (37, t_aast e_rf 5 37), (38, t_iinc 2 1 38), (41, t_goto 18), (44, t_ldO 0 1 44), (45, t_getR e_rf 4 3 45), (48, t_push (.inl 5) 1 48), (49, t_ldO 1 1 49), (50, t_aast e_rf 5 50), (51, t_ldO 0 1 51), (52, t_push (.inl 5) 1 52), (53, t_putI 4 4 53), (56, t_ldO 0 1 56), (57, t_getI 4 4 57), (60, t_if (fun a => a < 0) 101 60), (63, t_ldO 0 1 63), (64, t_getI 4 4 64), (67, t_ldO 0 1 67)]
theorem st_X4_save_0 : ∀ x ∈ tb_X4_save_0, e_Sd e_rf RX4 i_X4_save x.1 x.2 :=
  e_more (s_aload_n (k := 0) (by decide +kernel) rfl) (
  e_more (s_getI (c := 4) (j := 4) (idx := 27) (by decide +kernel) (by decide) (by decide) rfl wd_229) (
  e_more (s_bipush (n := 6) (v := 6) (by decide +kernel) (by decide)) (
  e_more (s_ic_lt (off := 50) (by decide +kernel) (by decide)) (
  e_more (s_aload_n (k := 0) (by decide +kernel) rfl) (
  e_more (s_getR (c := 4) (j := 3) (idx := 23) (by decide +kernel) (by decide) (by decide) rfl wd_228) (
  e_more (s_iconst (n := 0) (v := 0) (by decide +kernel) (by decide)) (
  e_more (s_aald (by decide +kernel) (by decide)) (
  e_more (s_astore_n (k := 1) (by decide +kernel) rfl (by decide)) (
  e_more (s_iconst (n := 1) (v := 1) (by decide +kernel) (by decide)) (
  e_more (s_istore_n (k := 2) (by decide +kernel) rfl (by decide)) (
  e_more (s_iload_n (k := 2) (by decide +kernel) rfl) (
  e_more (s_bipush (n := 6) (v := 6) (by decide +kernel) (by decide)) (
  e_more (s_ic_ge (off := 23) (by decide +kernel) (by decide)) (
  e_more (s_aload_n (k := 0) (by decide +kernel) rfl) (
  e_more (s_getR (c := 4) (j := 3) (idx := 23) (by decide +kernel) (by decide) (by decide) rfl wd_228) (
  e_more (s_iload_n (k := 2) (by decide +kernel) rfl) (
  e_more (s_iconst (n := 1) (v := 1) (by decide +kernel) (by decide)) (
  e_more (s_isub (by decide +kernel)) (
  e_more (s_aload_n (k := 0) (by decide +kernel) rfl) (
  e_more (s_getR (c := 4) (j := 3) (idx := 23) (by decide +kernel) (by decide) (by decide) rfl wd_228) (
  e_more (s_iload_n (k := 2) (by decide +kernel) rfl) (
  e_more (s_aald (by decide +kernel) (by decide)) (
  e_more (s_aast (by decide +kernel) (by decide)) (
  e_more (s_iinc (z := 1) (n := 1) (by decide +kernel) (by decide) (by decide)) (
  e_more (s_goto (off := (-23)) (by decide +kernel) (by decide)) (
  e_more (s_aload_n (k := 0) (by decide +kernel) rfl) (
  e_more (s_getR (c := 4) (j := 3) (idx := 23) (by decide +kernel) (by decide) (by decide) rfl wd_228) (
  e_more (s_iconst (n := 5) (v := 5) (by decide +kernel) (by decide)) (
  e_more (s_aload_n (k := 1) (by decide +kernel) rfl) (
  e_more (s_aast (by decide +kernel) (by decide)) (
  e_more (s_aload_n (k := 0) (by decide +kernel) rfl) (
  e_more (s_iconst (n := 5) (v := 5) (by decide +kernel) (by decide)) (
  e_more (s_putI (c := 4) (j := 4) (idx := 27) (by decide +kernel) (by decide) (by decide) rfl rfl wd_229) (
  e_more (s_aload_n (k := 0) (by decide +kernel) rfl) (
  e_more (s_getI (c := 4) (j := 4) (idx := 27) (by decide +kernel) (by decide) (by decide) rfl wd_229) (
  e_more (s_if_lt (off := 41) (by decide +kernel) (by decide)) (
  e_more (s_aload_n (k := 0) (by decide +kernel) rfl) (
  e_more (s_getI (c := 4) (j := 4) (idx := 27) (by decide +kernel) (by decide) (by decide) rfl wd_229) (
  e_more (s_aload_n (k := 0) (by decide +kernel) rfl) (
  e_no_more))))))))))))))))))))))))))))))))))))))))
def tb_X4_save_1 : eTb := [(68, t_getR e_rf 4 3 68), (71, t_alen 71), (72, t_ic (fun a b => b ≤ a) 101 72), (75, t_ldO 0 1 75), (76, t_getR e_rf 4 3 76), (79, t_ldO 0 1 79), (80, t_getI 4 4 80), (83, t_aald e_rf 5 83), (84, t_ldO 0 1 84), (85, t_getR e_rf 4 0 85), (88, t_call0 2 w_X0_copyFrom 88), (91, t_ldO 0 1 91), (92, t_dup 92), (93, t_getI 4 4 93), (96, t_push (.inl 1) 1 96), (97, t_ii (fun a b => a + b) 97), (98, t_putI 4 4 98), (101, t_ret)]
theorem st_X4_save_1 : ∀ x ∈ tb_X4_save_1, e_Sd e_rf RX4 i_X4_save x.1 x.2 :=
  e_more (s_getR (c := 4) (j := 3) (idx := 23) (by decide +kernel) (by decide) (by decide) rfl wd_228) (
  e_more (s_alen (by decide +kernel)) (
  e_more (s_ic_ge (off := 29) (by decide +kernel) (by decide)) (
  e_more (s_aload_n (k := 0) (by decide +kernel) rfl) (
  e_more (s_getR (c := 4) (j := 3) (idx := 23) (by decide +kernel) (by decide) (by decide) rfl wd_228) (
  e_more (s_aload_n (k := 0) (by decide +kernel) rfl) (
  e_more (s_getI (c := 4) (j := 4) (idx := 27) (by decide +kernel) (by decide) (by decide) rfl wd_229) (
  e_more (s_aald (by decide +kernel) (by decide)) (
  e_more (s_aload_n (k := 0) (by decide +kernel) rfl) (
  e_more (s_getR (c := 4) (j := 0) (idx := 10) (by decide +kernel) (by decide) (by decide) rfl wd_225) (
  e_more (e_call0 (s_callV (c := 0) (idx := 247) k_X0_copyFrom (by decide +kernel) cl_X0_copyFrom (by decide) rfl wd_904 wd_905 wd_906 (by decide) (e_sf_rec rfl))) (
  e_more (s_aload_n (k := 0) (by decide +kernel) rfl) (
  e_more (s_dup (by decide +kernel)) (
  e_more (s_getI (c := 4) (j := 4) (idx := 27) (by decide +kernel) (by decide) (by decide) rfl wd_229) (
  e_more (s_iconst (n := 1) (v := 1) (by decide +kernel) (by decide)) (
  e_more (s_iadd (by decide +kernel)) (
  e_more (s_putI (c := 4) (j := 4) (idx := 27) (by decide +kernel) (by decide) (by decide) rfl rfl wd_229) (
  e_more (s_ret (by decide +kernel) rfl) (
  e_no_more))))))))))))))))))
def tb_X4_save : eTb := tb_X4_save_0 ++ tb_X4_save_1
theorem st_X4_save : ∀ x ∈ tb_X4_save, e_Sd e_rf RX4 i_X4_save x.1 x.2 := e_app (st_X4_save_0) st_X4_save_1
def w_X4_save : eW := e_sf 0 (e_rn tb_X4_save (iL i_X4_save) 0 0)
theorem k_X4_save : e_OK e_rf i_X4_save 0 0 w_X4_save := k_sf (k_rn (own := RX4) ⟨by decide +kernel, rfl⟩ st_X4_save)
abbrev i_X4_pupil : eI := (yX4_pupil, cX4_pupil, 2, (some .int), 10)
theorem cl_X4_pupil : e_Cl i_X4_pupil 1 := ⟨wd_878, wd_15, ⟨by decide, by decide⟩, by decide +kernel, by decide⟩
def tb_X4_pupil : eTb := [(0, t_ldI 1 1 0), (1, t_push (.inl 5) 1 1), (2, t_ic (fun a b => a < b) 11 2), (5, t_ldI 1 1 5), (6, t_push (.inl 30) 2 6), (8, t_ic (fun a b => a ≤ b) 21 8), (11, t_throw "java/lang/IllegalArgumentException"), (21, t_ldO 0 1 21), (22, t_getR e_rf 4 0 22), (25, t_call0 1 w_X0_hasRoomForPupil 25), (28, t_ifn (fun a => a = 0) 41 28), (31, t_throw "java/lang/IllegalStateException"), (41, t_ldO 0 1 41), (42, t_call0 1 w_X4_save 42), (45, t_ldO 0 1 45), (46, t_getR e_rf 4 0 46), (49, t_ldI 1 1 49), (50, t_call0 2 w_X0_addPupil 50), (53, t_jret)]
theorem st_X4_pupil : ∀ x ∈ tb_X4_pupil, e_Sd e_rf RX4 i_X4_pupil x.1 x.2 :=
  e_more (s_iload_n (k := 1) (by decide +kernel) rfl) (
  e_more (s_iconst (n := 5) (v := 5) (by decide +kernel) (by decide)) (
  e_more (s_ic_lt (off := 9) (by decide +kernel) (by decide)) (
  e_more (s_iload_n (k := 1) (by decide +kernel) rfl) (
  e_more (s_bipush (n := 30) (v := 30) (by decide +kernel) (by decide)) (
  e_more (s_ic_le (off := 13) (by decide +kernel) (by decide)) (
  e_more (s_throw (text := "lungs are 5 to 30") (ik := 49) (is := 51) (ic := 53) ⟨rfl, by decide⟩ ⟨by decide +kernel, wd_406, wd_27, by decide +kernel, xat_53, by decide +kernel, by decide +kernel, (Or.inl ⟨by decide +kernel, by decide +kernel, by decide +kernel⟩)⟩) (
  e_more (s_aload_n (k := 0) (by decide +kernel) rfl) (
  e_more (s_getR (c := 4) (j := 0) (idx := 10) (by decide +kernel) (by decide) (by decide) rfl wd_225) (
  e_more (e_call0 (s_callV (c := 0) (idx := 56) k_X0_hasRoomForPupil (by decide +kernel) cl_X0_hasRoomForPupil (by decide) rfl wd_880 wd_881 wd_882 (by decide) (e_sf_rec rfl))) (
  e_more (s_if_ne (off := 13) (by decide +kernel) (by decide)) (
  e_more (s_throw (text := "there are 10 pupils") (ik := 60) (is := 62) (ic := 64) ⟨rfl, by decide⟩ ⟨by decide +kernel, wd_884, wd_38, by decide +kernel, xat_64, by decide +kernel, by decide +kernel, (Or.inl ⟨by decide +kernel, by decide +kernel, by decide +kernel⟩)⟩) (
  e_more (s_aload_n (k := 0) (by decide +kernel) rfl) (
  e_more (e_call0 (s_callV (c := 4) (idx := 65) k_X4_save (by decide +kernel) cl_X4_save (by decide) rfl wd_900 wd_902 wd_11 (by decide) (e_sf_rec rfl))) (
  e_more (s_aload_n (k := 0) (by decide +kernel) rfl) (
  e_more (s_getR (c := 4) (j := 0) (idx := 10) (by decide +kernel) (by decide) (by decide) rfl wd_225) (
  e_more (s_iload_n (k := 1) (by decide +kernel) rfl) (
  e_more (e_call0 (s_callV (c := 0) (idx := 68) k_X0_addPupil (by decide +kernel) cl_X0_addPupil (by decide) rfl wd_917 wd_918 wd_919 (by decide) (e_sf_rec rfl))) (
  e_more (s_jret (by decide +kernel) rfl) (
  e_no_more)))))))))))))))))))
def x_X4_pupil : eWX := e_sfx 0 (e_rnx tb_X4_pupil (iL i_X4_pupil) 1 6)
theorem kx_X4_pupil : e_OX e_rf i_X4_pupil 1 6 x_X4_pupil := kx_sf (kx_rn (own := RX4) ⟨by decide +kernel, rfl⟩ st_X4_pupil)
abbrev i_X4_instrument : eI := (yX4_instrument, cX4_instrument, 2, (some .int), 10)
theorem cl_X4_instrument : e_Cl i_X4_instrument 1 := ⟨wd_928, wd_15, ⟨by decide, by decide⟩, by decide +kernel, by decide⟩
def tb_X4_instrument : eTb := [(0, t_ldI 1 1 0), (1, t_if (fun a => a < 0) 9 1), (4, t_ldI 1 1 4), (5, t_push (.inl 3) 1 5), (6, t_ic (fun a b => a ≤ b) 19 6), (9, t_throw "java/lang/IllegalArgumentException"), (19, t_ldO 0 1 19), (20, t_getR e_rf 4 0 20), (23, t_call0 1 w_X0_hasRoomForInstrument 23), (26, t_ifn (fun a => a = 0) 39 26), (29, t_throw "java/lang/IllegalStateException"), (39, t_ldO 0 1 39), (40, t_call0 1 w_X4_save 40), (43, t_ldO 0 1 43), (44, t_getR e_rf 4 0 44), (47, t_ldI 1 1 47), (48, t_call0 2 w_X0_addInstrument 48), (51, t_jret)]
theorem st_X4_instrument : ∀ x ∈ tb_X4_instrument, e_Sd e_rf RX4 i_X4_instrument x.1 x.2 :=
  e_more (s_iload_n (k := 1) (by decide +kernel) rfl) (
  e_more (s_if_lt (off := 8) (by decide +kernel) (by decide)) (
  e_more (s_iload_n (k := 1) (by decide +kernel) rfl) (
  e_more (s_iconst (n := 3) (v := 3) (by decide +kernel) (by decide)) (
  e_more (s_ic_le (off := 13) (by decide +kernel) (by decide)) (
  e_more (s_throw (text := "a kind is 0 to 3") (ik := 49) (is := 72) (ic := 53) ⟨rfl, by decide⟩ ⟨by decide +kernel, wd_406, wd_27, by decide +kernel, xat_53, by decide +kernel, by decide +kernel, (Or.inl ⟨by decide +kernel, by decide +kernel, by decide +kernel⟩)⟩) (
  e_more (s_aload_n (k := 0) (by decide +kernel) rfl) (
  e_more (s_getR (c := 4) (j := 0) (idx := 10) (by decide +kernel) (by decide) (by decide) rfl wd_225) (
  e_more (e_call0 (s_callV (c := 0) (idx := 74) k_X0_hasRoomForInstrument (by decide +kernel) cl_X0_hasRoomForInstrument (by decide) rfl wd_930 wd_931 wd_932 (by decide) (e_sf_rec rfl))) (
  e_more (s_if_ne (off := 13) (by decide +kernel) (by decide)) (
  e_more (s_throw (text := "there are 10 instruments") (ik := 60) (is := 77) (ic := 64) ⟨rfl, by decide⟩ ⟨by decide +kernel, wd_884, wd_38, by decide +kernel, xat_64, by decide +kernel, by decide +kernel, (Or.inl ⟨by decide +kernel, by decide +kernel, by decide +kernel⟩)⟩) (
  e_more (s_aload_n (k := 0) (by decide +kernel) rfl) (
  e_more (e_call0 (s_callV (c := 4) (idx := 65) k_X4_save (by decide +kernel) cl_X4_save (by decide) rfl wd_900 wd_902 wd_11 (by decide) (e_sf_rec rfl))) (
  e_more (s_aload_n (k := 0) (by decide +kernel) rfl) (
  e_more (s_getR (c := 4) (j := 0) (idx := 10) (by decide +kernel) (by decide) (by decide) rfl wd_225) (
  e_more (s_iload_n (k := 1) (by decide +kernel) rfl) (
  e_more (e_call0 (s_callV (c := 0) (idx := 79) k_X0_addInstrument (by decide +kernel) cl_X0_addInstrument (by decide) rfl wd_935 wd_936 wd_937 (by decide) (e_sf_rec rfl))) (
  e_more (s_jret (by decide +kernel) rfl) (
  e_no_more))))))))))))))))))
def x_X4_instrument : eWX := e_sfx 0 (e_rnx tb_X4_instrument (iL i_X4_instrument) 1 6)
theorem kx_X4_instrument : e_OX e_rf i_X4_instrument 1 6 x_X4_instrument := kx_sf (kx_rn (own := RX4) ⟨by decide +kernel, rfl⟩ st_X4_instrument)
abbrev i_X4_lend : eI := (yX4_lend, cX4_lend, 5, (some .int), 10)
theorem cl_X4_lend : e_Cl i_X4_lend 2 := ⟨wd_951, wd_15, ⟨by decide, by decide⟩, by decide +kernel, by decide⟩
def tb_X4_lend : eTb := [(0, t_ldO 0 1 0), (1, t_getR e_rf 4 0 1), (4, t_ldI 1 1 4), (5, t_call0 2 w_X0_instrumentAt 5), (8, t_stO 3 1 8), (9, t_ldO 0 1 9), (10, t_getR e_rf 4 0 10), (13, t_ldI 2 1 13), (14, t_call0 2 w_X0_pupilAt 14), (17, t_stO 4 2 17), (19, t_ldO 3 1 19), (20, t_null 28 20), (23, t_ldO 4 2 23), (25, t_nonnull 38 25), (28, t_throw "java/lang/IndexOutOfBoundsException"), (38, t_ldO 0 1 38), (39, t_getR e_rf 4 0 39), (42, t_ldO 3 1 42), (43, t_ldO 4 2 43), (45, t_call0 3 w_X0_whyNoLoan 45), (48, t_if (fun a => a = 0) 61 48), (51, t_throw "java/lang/IllegalStateException"), (61, t_ldO 0 1 61), (62, t_call0 1 w_X4_save 62), (65, t_ldO 0 1 65), (66, t_getR e_rf 4 0 66), (69, t_ldI 1 1 69), (70, t_ldI 2 1 70), (71, t_call0 3 w_X0_tryLend 71), (74, t_pop 74), (75, t_ldO 0 1 75), (76, t_getR e_rf 4 0 76), (79, t_getI 0 5 79), (82, t_jret)]
theorem st_X4_lend : ∀ x ∈ tb_X4_lend, e_Sd e_rf RX4 i_X4_lend x.1 x.2 :=
  e_more (s_aload_n (k := 0) (by decide +kernel) rfl) (
  e_more (s_getR (c := 4) (j := 0) (idx := 10) (by decide +kernel) (by decide) (by decide) rfl wd_225) (
  e_more (s_iload_n (k := 1) (by decide +kernel) rfl) (
  e_more (e_call0 (s_callV (c := 0) (idx := 82) k_X0_instrumentAt (by decide +kernel) cl_X0_instrumentAt (by decide) rfl wd_338 wd_339 wd_340 (by decide) (e_sf_rec rfl))) (
  e_more (s_astore_n (k := 3) (by decide +kernel) rfl (by decide)) (
  e_more (s_aload_n (k := 0) (by decide +kernel) rfl) (
  e_more (s_getR (c := 4) (j := 0) (idx := 10) (by decide +kernel) (by decide) (by decide) rfl wd_225) (
  e_more (s_iload_n (k := 2) (by decide +kernel) rfl) (
  e_more (e_call0 (s_callV (c := 0) (idx := 86) k_X0_pupilAt (by decide +kernel) cl_X0_pupilAt (by decide) rfl wd_330 wd_331 wd_332 (by decide) (e_sf_rec rfl))) (
  e_more (s_astore (by decide +kernel) (by decide)) (
  e_more (s_aload_n (k := 3) (by decide +kernel) rfl) (
  e_more (s_ifnull (off := 8) (by decide +kernel) (by decide)) (
  e_more (s_aload (by decide +kernel)) (
  e_more (s_ifnonnull (off := 13) (by decide +kernel) (by decide)) (
  e_more (s_throw (text := "no such instrument or pupil") (ik := 90) (is := 92) (ic := 94) ⟨rfl, by decide⟩ ⟨by decide +kernel, wd_257, wd_28, by decide +kernel, xat_94, by decide +kernel, by decide +kernel, (Or.inl ⟨by decide +kernel, by decide +kernel, by decide +kernel⟩)⟩) (
  e_more (s_aload_n (k := 0) (by decide +kernel) rfl) (
  e_more (s_getR (c := 4) (j := 0) (idx := 10) (by decide +kernel) (by decide) (by decide) rfl wd_225) (
  e_more (s_aload_n (k := 3) (by decide +kernel) rfl) (
  e_more (s_aload (by decide +kernel)) (
  e_more (e_call0 (s_callV (c := 0) (idx := 95) k_X0_whyNoLoan (by decide +kernel) cl_X0_whyNoLoan (by decide) rfl wd_853 wd_854 wd_855 (by decide) (e_sf_rec rfl))) (
  e_more (s_if_eq (off := 13) (by decide +kernel) (by decide)) (
  e_more (s_throw (text := "the loan is not possible") (ik := 60) (is := 99) (ic := 64) ⟨rfl, by decide⟩ ⟨by decide +kernel, wd_884, wd_38, by decide +kernel, xat_64, by decide +kernel, by decide +kernel, (Or.inl ⟨by decide +kernel, by decide +kernel, by decide +kernel⟩)⟩) (
  e_more (s_aload_n (k := 0) (by decide +kernel) rfl) (
  e_more (e_call0 (s_callV (c := 4) (idx := 65) k_X4_save (by decide +kernel) cl_X4_save (by decide) rfl wd_900 wd_902 wd_11 (by decide) (e_sf_rec rfl))) (
  e_more (s_aload_n (k := 0) (by decide +kernel) rfl) (
  e_more (s_getR (c := 4) (j := 0) (idx := 10) (by decide +kernel) (by decide) (by decide) rfl wd_225) (
  e_more (s_iload_n (k := 1) (by decide +kernel) rfl) (
  e_more (s_iload_n (k := 2) (by decide +kernel) rfl) (
  e_more (e_call0 (s_callV (c := 0) (idx := 101) k_X0_tryLend (by decide +kernel) cl_X0_tryLend (by decide) rfl wd_953 wd_954 wd_955 (by decide) (e_sf_rec rfl))) (
  e_more (s_pop (by decide +kernel)) (
  e_more (s_aload_n (k := 0) (by decide +kernel) rfl) (
  e_more (s_getR (c := 4) (j := 0) (idx := 10) (by decide +kernel) (by decide) (by decide) rfl wd_225) (
  e_more (s_getI (c := 0) (j := 5) (idx := 105) (by decide +kernel) (by decide) (by decide) rfl wd_129) (
  e_more (s_jret (by decide +kernel) rfl) (
  e_no_more))))))))))))))))))))))))))))))))))
def x_X4_lend : eWX := e_sfx 0 (e_rnx tb_X4_lend (iL i_X4_lend) 1 6)
theorem kx_X4_lend : e_OX e_rf i_X4_lend 1 6 x_X4_lend := kx_sf (kx_rn (own := RX4) ⟨by decide +kernel, rfl⟩ st_X4_lend)
abbrev i_X4_back : eI := (yX4_back, cX4_back, 4, (some .int), 10)
theorem cl_X4_back : e_Cl i_X4_back 1 := ⟨wd_964, wd_15, ⟨by decide, by decide⟩, by decide +kernel, by decide⟩
def tb_X4_back : eTb := [(0, t_ldO 0 1 0), (1, t_getR e_rf 4 0 1), (4, t_ldI 1 1 4), (5, t_call0 2 w_X0_instrumentAt 5), (8, t_stO 2 1 8), (9, t_ldO 2 1 9), (10, t_nonnull 23 10), (13, t_throw "java/lang/IndexOutOfBoundsException"), (23, t_ldO 2 1 23), (24, t_call0 1 w_X1_isLent 24), (27, t_ifn (fun a => a = 0) 40 27), (30, t_throw "java/lang/IllegalStateException"), (40, t_ldO 0 1 40), (41, t_getR e_rf 4 0 41), (44, t_ldO 2 1 44), (45, t_call0 2 w_X0_billFor 45), (48, t_stI 3 1 48), (49, t_ldO 0 1 49), (50, t_call0 1 w_X4_save 50), (53, t_ldO 0 1 53), (54, t_getR e_rf 4 0 54), (57, t_ldI 1 1 57), (58, t_call0 2 w_X0_tryBack 58), (61, t_pop 61), (62, t_ldI 3 1 62), (63, t_jret)]
theorem st_X4_back : ∀ x ∈ tb_X4_back, e_Sd e_rf RX4 i_X4_back x.1 x.2 :=
  e_more (s_aload_n (k := 0) (by decide +kernel) rfl) (
  e_more (s_getR (c := 4) (j := 0) (idx := 10) (by decide +kernel) (by decide) (by decide) rfl wd_225) (
  e_more (s_iload_n (k := 1) (by decide +kernel) rfl) (
  e_more (e_call0 (s_callV (c := 0) (idx := 82) k_X0_instrumentAt (by decide +kernel) cl_X0_instrumentAt (by decide) rfl wd_338 wd_339 wd_340 (by decide) (e_sf_rec rfl))) (
  e_more (s_astore_n (k := 2) (by decide +kernel) rfl (by decide)) (
  e_more (s_aload_n (k := 2) (by decide +kernel) rfl) (
  e_more (s_ifnonnull (off := 13) (by decide +kernel) (by decide)) (
  e_more (s_throw (text := "no such instrument") (ik := 90) (is := 108) (ic := 94) ⟨rfl, by decide⟩ ⟨by decide +kernel, wd_257, wd_28, by decide +kernel, xat_94, by decide +kernel, by decide +kernel, (Or.inl ⟨by decide +kernel, by decide +kernel, by decide +kernel⟩)⟩) (
  e_more (s_aload_n (k := 2) (by decide +kernel) rfl) (
  e_more (e_call0 (s_callV (c := 1) (idx := 110) k_X1_isLent (by decide +kernel) cl_X1_isLent (by decide) rfl wd_965 wd_790 wd_791 (by decide) (e_sf_rec rfl))) (
  e_more (s_if_ne (off := 13) (by decide +kernel) (by decide)) (
  e_more (s_throw (text := "it is lent to nobody") (ik := 60) (is := 115) (ic := 64) ⟨rfl, by decide⟩ ⟨by decide +kernel, wd_884, wd_38, by decide +kernel, xat_64, by decide +kernel, by decide +kernel, (Or.inl ⟨by decide +kernel, by decide +kernel, by decide +kernel⟩)⟩) (
  e_more (s_aload_n (k := 0) (by decide +kernel) rfl) (
  e_more (s_getR (c := 4) (j := 0) (idx := 10) (by decide +kernel) (by decide) (by decide) rfl wd_225) (
  e_more (s_aload_n (k := 2) (by decide +kernel) rfl) (
  e_more (e_call0 (s_callV (c := 0) (idx := 117) k_X0_billFor (by decide +kernel) cl_X0_billFor (by decide) rfl wd_967 wd_968 wd_969 (by decide) (e_sf_rec rfl))) (
  e_more (s_istore_n (k := 3) (by decide +kernel) rfl (by decide)) (
  e_more (s_aload_n (k := 0) (by decide +kernel) rfl) (
  e_more (e_call0 (s_callV (c := 4) (idx := 65) k_X4_save (by decide +kernel) cl_X4_save (by decide) rfl wd_900 wd_902 wd_11 (by decide) (e_sf_rec rfl))) (
  e_more (s_aload_n (k := 0) (by decide +kernel) rfl) (
  e_more (s_getR (c := 4) (j := 0) (idx := 10) (by decide +kernel) (by decide) (by decide) rfl wd_225) (
  e_more (s_iload_n (k := 1) (by decide +kernel) rfl) (
  e_more (e_call0 (s_callV (c := 0) (idx := 121) k_X0_tryBack (by decide +kernel) cl_X0_tryBack (by decide) rfl wd_972 wd_973 wd_974 (by decide) (e_sf_rec rfl))) (
  e_more (s_pop (by decide +kernel)) (
  e_more (s_iload_n (k := 3) (by decide +kernel) rfl) (
  e_more (s_jret (by decide +kernel) rfl) (
  e_no_more))))))))))))))))))))))))))
def x_X4_back : eWX := e_sfx 0 (e_rnx tb_X4_back (iL i_X4_back) 1 6)
theorem kx_X4_back : e_OX e_rf i_X4_back 1 6 x_X4_back := kx_sf (kx_rn (own := RX4) ⟨by decide +kernel, rfl⟩ st_X4_back)
abbrev i_X4_dent : eI := (yX4_dent, cX4_dent, 4, (some .int), 10)
theorem cl_X4_dent : e_Cl i_X4_dent 2 := ⟨wd_1001, wd_15, ⟨by decide, by decide⟩, by decide +kernel, by decide⟩
def tb_X4_dent : eTb := [(0, t_ldO 0 1 0), (1, t_getR e_rf 4 0 1), (4, t_ldI 1 1 4), (5, t_call0 2 w_X0_instrumentAt 5), (8, t_stO 3 1 8), (9, t_ldO 3 1 9), (10, t_nonnull 23 10), (13, t_throw "java/lang/IndexOutOfBoundsException"), (23, t_ldI 2 1 23), (24, t_push (.inl 1) 1 24), (25, t_ic (fun a b => a < b) 34 25), (28, t_ldI 2 1 28), (29, t_push (.inl 9) 2 29), (31, t_ic (fun a b => a ≤ b) 44 31), (34, t_throw "java/lang/IllegalArgumentException"), (44, t_ldO 0 1 44), (45, t_call0 1 w_X4_save 45), (48, t_ldO 3 1 48), (49, t_ldI 2 1 49), (50, t_call0 2 w_X1_addDents 50), (53, t_ldO 3 1 53), (54, t_getI 1 1 54), (57, t_jret)]
theorem st_X4_dent : ∀ x ∈ tb_X4_dent, e_Sd e_rf RX4 i_X4_dent x.1 x.2 :=
  e_more (s_aload_n (k := 0) (by decide +kernel) rfl) (
  e_more (s_getR (c := 4) (j := 0) (idx := 10) (by decide +kernel) (by decide) (by decide) rfl wd_225) (
  e_more (s_iload_n (k := 1) (by decide +kernel) rfl) (
  e_more (e_call0 (s_callV (c := 0) (idx := 82) k_X0_instrumentAt (by decide +kernel) cl_X0_instrumentAt (by decide) rfl wd_338 wd_339 wd_340 (by decide) (e_sf_rec rfl))) (
  e_more (s_astore_n (k := 3) (by decide +kernel) rfl (by decide)) (
  e_more (s_aload_n (k := 3) (by decide +kernel) rfl) (
  e_more (s_ifnonnull (off := 13) (by decide +kernel) (by decide)) (
  e_more (s_throw (text := "no such instrument") (ik := 90) (is := 108) (ic := 94) ⟨rfl, by decide⟩ ⟨by decide +kernel, wd_257, wd_28, by decide +kernel, xat_94, by decide +kernel, by decide +kernel, (Or.inl ⟨by decide +kernel, by decide +kernel, by decide +kernel⟩)⟩) (
  e_more (s_iload_n (k := 2) (by decide +kernel) rfl) (
  e_more (s_iconst (n := 1) (v := 1) (by decide +kernel) (by decide)) (
  e_more (s_ic_lt (off := 9) (by decide +kernel) (by decide)) (
  e_more (s_iload_n (k := 2) (by decide +kernel) rfl) (
  e_more (s_bipush (n := 9) (v := 9) (by decide +kernel) (by decide)) (
  e_more (s_ic_le (off := 13) (by decide +kernel) (by decide)) (
  e_more (s_throw (text := "dents are 1 to 9") (ik := 49) (is := 125) (ic := 53) ⟨rfl, by decide⟩ ⟨by decide +kernel, wd_406, wd_27, by decide +kernel, xat_53, by decide +kernel, by decide +kernel, (Or.inl ⟨by decide +kernel, by decide +kernel, by decide +kernel⟩)⟩) (
  e_more (s_aload_n (k := 0) (by decide +kernel) rfl) (
  e_more (e_call0 (s_callV (c := 4) (idx := 65) k_X4_save (by decide +kernel) cl_X4_save (by decide) rfl wd_900 wd_902 wd_11 (by decide) (e_sf_rec rfl))) (
  e_more (s_aload_n (k := 3) (by decide +kernel) rfl) (
  e_more (s_iload_n (k := 2) (by decide +kernel) rfl) (
  e_more (e_call0 (s_callV (c := 1) (idx := 127) k_X1_addDents (by decide +kernel) cl_X1_addDents (by decide) rfl wd_1003 wd_1004 wd_1005 (by decide) (e_sf_rec rfl))) (
  e_more (s_aload_n (k := 3) (by decide +kernel) rfl) (
  e_more (s_getI (c := 1) (j := 1) (idx := 131) (by decide +kernel) (by decide) (by decide) rfl wd_104) (
  e_more (s_jret (by decide +kernel) rfl) (
  e_no_more)))))))))))))))))))))))
def x_X4_dent : eWX := e_sfx 0 (e_rnx tb_X4_dent (iL i_X4_dent) 1 6)
theorem kx_X4_dent : e_OX e_rf i_X4_dent 1 6 x_X4_dent := kx_sf (kx_rn (own := RX4) ⟨by decide +kernel, rfl⟩ st_X4_dent)
abbrev i_X4_mend : eI := (yX4_mend, cX4_mend, 4, (some .int), 10)
theorem cl_X4_mend : e_Cl i_X4_mend 1 := ⟨wd_987, wd_15, ⟨by decide, by decide⟩, by decide +kernel, by decide⟩
def tb_X4_mend : eTb := [(0, t_ldO 0 1 0), (1, t_getR e_rf 4 0 1), (4, t_ldI 1 1 4), (5, t_call0 2 w_X0_instrumentAt 5), (8, t_stO 2 1 8), (9, t_ldO 2 1 9), (10, t_nonnull 23 10), (13, t_throw "java/lang/IndexOutOfBoundsException"), (23, t_ldO 2 1 23), (24, t_call0 1 w_X1_isLent 24), (27, t_if (fun a => a = 0) 40 27), (30, t_throw "java/lang/IllegalStateException"), (40, t_ldO 2 1 40), (41, t_call0 1 w_X1_priceOfRepair 41), (44, t_stI 3 1 44), (45, t_ldO 0 1 45), (46, t_call0 1 w_X4_save 46), (49, t_ldO 0 1 49), (50, t_getR e_rf 4 0 50), (53, t_ldI 1 1 53), (54, t_call0 2 w_X0_tryMend 54), (57, t_pop 57), (58, t_ldI 3 1 58), (59, t_jret)]
theorem st_X4_mend : ∀ x ∈ tb_X4_mend, e_Sd e_rf RX4 i_X4_mend x.1 x.2 :=
  e_more (s_aload_n (k := 0) (by decide +kernel) rfl) (
  e_more (s_getR (c := 4) (j := 0) (idx := 10) (by decide +kernel) (by decide) (by decide) rfl wd_225) (
  e_more (s_iload_n (k := 1) (by decide +kernel) rfl) (
  e_more (e_call0 (s_callV (c := 0) (idx := 82) k_X0_instrumentAt (by decide +kernel) cl_X0_instrumentAt (by decide) rfl wd_338 wd_339 wd_340 (by decide) (e_sf_rec rfl))) (
  e_more (s_astore_n (k := 2) (by decide +kernel) rfl (by decide)) (
  e_more (s_aload_n (k := 2) (by decide +kernel) rfl) (
  e_more (s_ifnonnull (off := 13) (by decide +kernel) (by decide)) (
  e_more (s_throw (text := "no such instrument") (ik := 90) (is := 108) (ic := 94) ⟨rfl, by decide⟩ ⟨by decide +kernel, wd_257, wd_28, by decide +kernel, xat_94, by decide +kernel, by decide +kernel, (Or.inl ⟨by decide +kernel, by decide +kernel, by decide +kernel⟩)⟩) (
  e_more (s_aload_n (k := 2) (by decide +kernel) rfl) (
  e_more (e_call0 (s_callV (c := 1) (idx := 110) k_X1_isLent (by decide +kernel) cl_X1_isLent (by decide) rfl wd_965 wd_790 wd_791 (by decide) (e_sf_rec rfl))) (
  e_more (s_if_eq (off := 13) (by decide +kernel) (by decide)) (
  e_more (s_throw (text := "it is lent") (ik := 60) (is := 134) (ic := 64) ⟨rfl, by decide⟩ ⟨by decide +kernel, wd_884, wd_38, by decide +kernel, xat_64, by decide +kernel, by decide +kernel, (Or.inl ⟨by decide +kernel, by decide +kernel, by decide +kernel⟩)⟩) (
  e_more (s_aload_n (k := 2) (by decide +kernel) rfl) (
  e_more (e_call0 (s_callV (c := 1) (idx := 136) k_X1_priceOfRepair (by decide +kernel) cl_X1_priceOfRepair (by decide) rfl wd_989 wd_990 wd_991 (by decide) (e_sf_rec rfl))) (
  e_more (s_istore_n (k := 3) (by decide +kernel) rfl (by decide)) (
  e_more (s_aload_n (k := 0) (by decide +kernel) rfl) (
  e_more (e_call0 (s_callV (c := 4) (idx := 65) k_X4_save (by decide +kernel) cl_X4_save (by decide) rfl wd_900 wd_902 wd_11 (by decide) (e_sf_rec rfl))) (
  e_more (s_aload_n (k := 0) (by decide +kernel) rfl) (
  e_more (s_getR (c := 4) (j := 0) (idx := 10) (by decide +kernel) (by decide) (by decide) rfl wd_225) (
  e_more (s_iload_n (k := 1) (by decide +kernel) rfl) (
  e_more (e_call0 (s_callV (c := 0) (idx := 140) k_X0_tryMend (by decide +kernel) cl_X0_tryMend (by decide) rfl wd_993 wd_994 wd_995 (by decide) (e_sf_rec rfl))) (
  e_more (s_pop (by decide +kernel)) (
  e_more (s_iload_n (k := 3) (by decide +kernel) rfl) (
  e_more (s_jret (by decide +kernel) rfl) (
  e_no_more))))))))))))))))))))))))
def x_X4_mend : eWX := e_sfx 0 (e_rnx tb_X4_mend (iL i_X4_mend) 1 6)
theorem kx_X4_mend : e_OX e_rf i_X4_mend 1 6 x_X4_mend := kx_sf (kx_rn (own := RX4) ⟨by decide +kernel, rfl⟩ st_X4_mend)
abbrev i_X4_pay : eI := (yX4_pay, cX4_pay, 4, (some .int), 10)
theorem cl_X4_pay : e_Cl i_X4_pay 2 := ⟨wd_1011, wd_15, ⟨by decide, by decide⟩, by decide +kernel, by decide⟩
def tb_X4_pay : eTb := [(0, t_ldO 0 1 0), (1, t_getR e_rf 4 0 1), (4, t_ldI 1 1 4), (5, t_call0 2 w_X0_pupilAt 5), (8, t_stO 3 1 8), (9, t_ldO 3 1 9), (10, t_nonnull 23 10), (13, t_throw "java/lang/IndexOutOfBoundsException"), (23, t_ldI 2 1 23), (24, t_push (.inl 1) 1 24), (25, t_ic (fun a b => a < b) 35 25), (28, t_ldI 2 1 28), (29, t_push (.inl 999) 3 29), (32, t_ic (fun a b => a ≤ b) 45 32), (35, t_throw "java/lang/IllegalArgumentException"), (45, t_ldO 0 1 45), (46, t_call0 1 w_X4_save 46), (49, t_ldO 0 1 49), (50, t_getR e_rf 4 0 50), (53, t_ldO 3 1 53), (54, t_ldI 2 1 54), (55, t_call0 3 w_X0_takePayment 55), (58, t_jret)]
theorem st_X4_pay : ∀ x ∈ tb_X4_pay, e_Sd e_rf RX4 i_X4_pay x.1 x.2 :=
  e_more (s_aload_n (k := 0) (by decide +kernel) rfl) (
  e_more (s_getR (c := 4) (j := 0) (idx := 10) (by decide +kernel) (by decide) (by decide) rfl wd_225) (
  e_more (s_iload_n (k := 1) (by decide +kernel) rfl) (
  e_more (e_call0 (s_callV (c := 0) (idx := 86) k_X0_pupilAt (by decide +kernel) cl_X0_pupilAt (by decide) rfl wd_330 wd_331 wd_332 (by decide) (e_sf_rec rfl))) (
  e_more (s_astore_n (k := 3) (by decide +kernel) rfl (by decide)) (
  e_more (s_aload_n (k := 3) (by decide +kernel) rfl) (
  e_more (s_ifnonnull (off := 13) (by decide +kernel) (by decide)) (
  e_more (s_throw (text := "no such pupil") (ik := 90) (is := 143) (ic := 94) ⟨rfl, by decide⟩ ⟨by decide +kernel, wd_257, wd_28, by decide +kernel, xat_94, by decide +kernel, by decide +kernel, (Or.inl ⟨by decide +kernel, by decide +kernel, by decide +kernel⟩)⟩) (
  e_more (s_iload_n (k := 2) (by decide +kernel) rfl) (
  e_more (s_iconst (n := 1) (v := 1) (by decide +kernel) (by decide)) (
  e_more (s_ic_lt (off := 10) (by decide +kernel) (by decide)) (
  e_more (s_iload_n (k := 2) (by decide +kernel) rfl) (
  e_more (s_sipush (n := 999) (v := 999) (by decide +kernel) (by decide)) (
  e_more (s_ic_le (off := 13) (by decide +kernel) (by decide)) (
  e_more (s_throw (text := "pence are 1 to 999") (ik := 49) (is := 145) (ic := 53) ⟨rfl, by decide⟩ ⟨by decide +kernel, wd_406, wd_27, by decide +kernel, xat_53, by decide +kernel, by decide +kernel, (Or.inl ⟨by decide +kernel, by decide +kernel, by decide +kernel⟩)⟩) (
  e_more (s_aload_n (k := 0) (by decide +kernel) rfl) (
  e_more (e_call0 (s_callV (c := 4) (idx := 65) k_X4_save (by decide +kernel) cl_X4_save (by decide) rfl wd_900 wd_902 wd_11 (by decide) (e_sf_rec rfl))) (
  e_more (s_aload_n (k := 0) (by decide +kernel) rfl) (
  e_more (s_getR (c := 4) (j := 0) (idx := 10) (by decide +kernel) (by decide) (by decide) rfl wd_225) (
  e_more (s_aload_n (k := 3) (by decide +kernel) rfl) (
  e_more (s_iload_n (k := 2) (by decide +kernel) rfl) (
  e_more (e_call0 (s_callV (c := 0) (idx := 147) k_X0_takePayment (by decide +kernel) cl_X0_takePayment (by decide) rfl wd_1013 wd_1014 wd_1015 (by decide) (e_sf_rec rfl))) (
  e_more (s_jret (by decide +kernel) rfl) (
  e_no_more)))))))))))))))))))))))
def x_X4_pay : eWX := e_sfx 0 (e_rnx tb_X4_pay (iL i_X4_pay) 1 6)
theorem kx_X4_pay : e_OX e_rf i_X4_pay 1 6 x_X4_pay := kx_sf (kx_rn (own := RX4) ⟨by decide +kernel, rfl⟩ st_X4_pay)
abbrev i_X4_set : eI := (yX4_set, cX4_set, 4, (some .int), 10)
theorem cl_X4_set : e_Cl i_X4_set 2 := ⟨wd_1021, wd_15, ⟨by decide, by decide⟩, by decide +kernel, by decide⟩
def tb_X4_set : eTb := [(0, t_ldO 0 1 0), (1, t_getR e_rf 4 0 1), (4, t_ldI 1 1 4), (5, t_call0 2 w_X0_isSetting 5), (8, t_ifn (fun a => a = 0) 21 8), (11, t_throw "java/lang/IndexOutOfBoundsException"), (21, t_ldI 2 1 21), (22, t_if (fun a => a < 0) 37 22), (25, t_ldI 2 1 25), (26, t_ldO 0 1 26), (27, t_getR e_rf 4 0 27), (30, t_ldI 1 1 30), (31, t_call0 2 w_X0_highestOf 31), (34, t_ic (fun a b => a ≤ b) 47 34), (37, t_throw "java/lang/IllegalArgumentException"), (47, t_ldO 0 1 47), (48, t_call0 1 w_X4_save 48), (51, t_ldO 0 1 51), (52, t_getR e_rf 4 0 52), (55, t_ldI 1 1 55), (56, t_call0 2 w_X0_settingAt 56), (59, t_stI 3 1 59), (60, t_ldO 0 1 60), (61, t_getR e_rf 4 0 61), (64, t_ldI 1 1 64), (65, t_ldI 2 1 65), (66, t_call0 3 w_X0_changeSetting 66), (69, t_ldI 3 1 69), (70, t_jret)]
theorem st_X4_set : ∀ x ∈ tb_X4_set, e_Sd e_rf RX4 i_X4_set x.1 x.2 :=
  e_more (s_aload_n (k := 0) (by decide +kernel) rfl) (
  e_more (s_getR (c := 4) (j := 0) (idx := 10) (by decide +kernel) (by decide) (by decide) rfl wd_225) (
  e_more (s_iload_n (k := 1) (by decide +kernel) rfl) (
  e_more (e_call0 (s_callV (c := 0) (idx := 151) k_X0_isSetting (by decide +kernel) cl_X0_isSetting (by decide) rfl wd_1022 wd_388 wd_389 (by decide) (e_sf_rec rfl))) (
  e_more (s_if_ne (off := 13) (by decide +kernel) (by decide)) (
  e_more (s_throw (text := "no such setting") (ik := 90) (is := 154) (ic := 94) ⟨rfl, by decide⟩ ⟨by decide +kernel, wd_257, wd_28, by decide +kernel, xat_94, by decide +kernel, by decide +kernel, (Or.inl ⟨by decide +kernel, by decide +kernel, by decide +kernel⟩)⟩) (
  e_more (s_iload_n (k := 2) (by decide +kernel) rfl) (
  e_more (s_if_lt (off := 15) (by decide +kernel) (by decide)) (
  e_more (s_iload_n (k := 2) (by decide +kernel) rfl) (
  e_more (s_aload_n (k := 0) (by decide +kernel) rfl) (
  e_more (s_getR (c := 4) (j := 0) (idx := 10) (by decide +kernel) (by decide) (by decide) rfl wd_225) (
  e_more (s_iload_n (k := 1) (by decide +kernel) rfl) (
  e_more (e_call0 (s_callV (c := 0) (idx := 156) k_X0_highestOf (by decide +kernel) cl_X0_highestOf (by decide) rfl wd_1024 wd_1025 wd_1026 (by decide) (e_sf_rec rfl))) (
  e_more (s_ic_le (off := 13) (by decide +kernel) (by decide)) (
  e_more (s_throw (text := "the value is out of range") (ik := 49) (is := 159) (ic := 53) ⟨rfl, by decide⟩ ⟨by decide +kernel, wd_406, wd_27, by decide +kernel, xat_53, by decide +kernel, by decide +kernel, (Or.inl ⟨by decide +kernel, by decide +kernel, by decide +kernel⟩)⟩) (
  e_more (s_aload_n (k := 0) (by decide +kernel) rfl) (
  e_more (e_call0 (s_callV (c := 4) (idx := 65) k_X4_save (by decide +kernel) cl_X4_save (by decide) rfl wd_900 wd_902 wd_11 (by decide) (e_sf_rec rfl))) (
  e_more (s_aload_n (k := 0) (by decide +kernel) rfl) (
  e_more (s_getR (c := 4) (j := 0) (idx := 10) (by decide +kernel) (by decide) (by decide) rfl wd_225) (
  e_more (s_iload_n (k := 1) (by decide +kernel) rfl) (
  e_more (e_call0 (s_callV (c := 0) (idx := 161) k_X0_settingAt (by decide +kernel) cl_X0_settingAt (by decide) rfl wd_383 wd_384 wd_385 (by decide) (e_sf_rec rfl))) (
  e_more (s_istore_n (k := 3) (by decide +kernel) rfl (by decide)) (
  e_more (s_aload_n (k := 0) (by decide +kernel) rfl) (
  e_more (s_getR (c := 4) (j := 0) (idx := 10) (by decide +kernel) (by decide) (by decide) rfl wd_225) (
  e_more (s_iload_n (k := 1) (by decide +kernel) rfl) (
  e_more (s_iload_n (k := 2) (by decide +kernel) rfl) (
  e_more (e_call0 (s_callV (c := 0) (idx := 164) k_X0_changeSetting (by decide +kernel) cl_X0_changeSetting (by decide) rfl wd_1029 wd_1030 wd_1031 (by decide) (e_sf_rec rfl))) (
  e_more (s_iload_n (k := 3) (by decide +kernel) rfl) (
  e_more (s_jret (by decide +kernel) rfl) (
  e_no_more)))))))))))))))))))))))))))))
def x_X4_set : eWX := e_sfx 0 (e_rnx tb_X4_set (iL i_X4_set) 1 6)
theorem kx_X4_set : e_OX e_rf i_X4_set 1 6 x_X4_set := kx_sf (kx_rn (own := RX4) ⟨by decide +kernel, rfl⟩ st_X4_set)
abbrev i_X4_pass : eI := (yX4_pass, cX4_pass, 3, (some .int), 10)
theorem cl_X4_pass : e_Cl i_X4_pass 1 := ⟨wd_1036, wd_15, ⟨by decide, by decide⟩, by decide +kernel, by decide⟩
def tb_X4_pass : eTb := [(0, t_ldI 1 1 0), (1, t_push (.inl 1) 1 1), (2, t_ic (fun a b => a < b) 11 2), (5, t_ldI 1 1 5), (6, t_push (.inl 30) 2 6), (8, t_ic (fun a b => a ≤ b) 21 8), (11, t_throw "java/lang/IllegalArgumentException"), (21, t_ldO 0 1 21), (22, t_call0 1 w_X4_save 22), (25, t_push (.inl 0) 1 25), (26, t_stI 2 1 26), (27, t_ldI 2 1 27), (28, t_ldI 1 1 28), (29, t_ic (fun a b => b ≤ a) 45 29), (32, t_ldO 0 1 32), (33, t_getR e_rf 4 0 33), (36, t_call0 1 w_X0_passDay 36), (39, t_iinc 2 1 39), (42, t_goto 27), (45, t_ldO 0 1 45), (46, t_getR e_rf 4 0 46), (49, t_getI 0 7 49), (52, t_jret)]
theorem st_X4_pass : ∀ x ∈ tb_X4_pass, e_Sd e_rf RX4 i_X4_pass x.1 x.2 :=
  e_more (s_iload_n (k := 1) (by decide +kernel) rfl) (
  e_more (s_iconst (n := 1) (v := 1) (by decide +kernel) (by decide)) (
  e_more (s_ic_lt (off := 9) (by decide +kernel) (by decide)) (
  e_more (s_iload_n (k := 1) (by decide +kernel) rfl) (
  e_more (s_bipush (n := 30) (v := 30) (by decide +kernel) (by decide)) (
  e_more (s_ic_le (off := 13) (by decide +kernel) (by decide)) (
  e_more (s_throw (text := "days are 1 to 30") (ik := 49) (is := 168) (ic := 53) ⟨rfl, by decide⟩ ⟨by decide +kernel, wd_406, wd_27, by decide +kernel, xat_53, by decide +kernel, by decide +kernel, (Or.inl ⟨by decide +kernel, by decide +kernel, by decide +kernel⟩)⟩) (
  e_more (s_aload_n (k := 0) (by decide +kernel) rfl) (
  e_more (e_call0 (s_callV (c := 4) (idx := 65) k_X4_save (by decide +kernel) cl_X4_save (by decide) rfl wd_900 wd_902 wd_11 (by decide) (e_sf_rec rfl))) (
  e_more (s_iconst (n := 0) (v := 0) (by decide +kernel) (by decide)) (
  e_more (s_istore_n (k := 2) (by decide +kernel) rfl (by decide)) (
  e_more (s_iload_n (k := 2) (by decide +kernel) rfl) (
  e_more (s_iload_n (k := 1) (by decide +kernel) rfl) (
  e_more (s_ic_ge (off := 16) (by decide +kernel) (by decide)) (
  e_more (s_aload_n (k := 0) (by decide +kernel) rfl) (
  e_more (s_getR (c := 4) (j := 0) (idx := 10) (by decide +kernel) (by decide) (by decide) rfl wd_225) (
  e_more (e_call0 (s_callV (c := 0) (idx := 170) k_X0_passDay (by decide +kernel) cl_X0_passDay (by decide) rfl wd_1038 wd_1039 wd_1040 (by decide) (e_sf_rec rfl))) (
  e_more (s_iinc (z := 1) (n := 1) (by decide +kernel) (by decide) (by decide)) (
  e_more (s_goto (off := (-15)) (by decide +kernel) (by decide)) (
  e_more (s_aload_n (k := 0) (by decide +kernel) rfl) (
  e_more (s_getR (c := 4) (j := 0) (idx := 10) (by decide +kernel) (by decide) (by decide) rfl wd_225) (
  e_more (s_getI (c := 0) (j := 7) (idx := 173) (by decide +kernel) (by decide) (by decide) rfl wd_132) (
  e_more (s_jret (by decide +kernel) rfl) (
  e_no_more)))))))))))))))))))))))
def x_X4_pass : eWX := e_sfx 0 (e_rnx tb_X4_pass (iL i_X4_pass) 1 6)
theorem kx_X4_pass : e_OX e_rf i_X4_pass 1 6 x_X4_pass := kx_sf (kx_rn (own := RX4) ⟨by decide +kernel, rfl⟩ st_X4_pass)
abbrev i_X4_teach : eI := (yX4_teach, cX4_teach, 4, (some .int), 10)
theorem cl_X4_teach : e_Cl i_X4_teach 2 := ⟨wd_1051, wd_15, ⟨by decide, by decide⟩, by decide +kernel, by decide⟩
def tb_X4_teach : eTb := [(0, t_ldO 0 1 0), (1, t_getR e_rf 4 0 1), (4, t_ldI 1 1 4), (5, t_call0 2 w_X0_pupilAt 5), (8, t_stO 3 1 8), (9, t_ldO 3 1 9), (10, t_null 20 10), (13, t_ldI 2 1 13), (14, t_call0 1 w_X4_isTeacher 14), (17, t_ifn (fun a => a = 0) 30 17), (20, t_throw "java/lang/IndexOutOfBoundsException"), (30, t_ldO 0 1 30), (31, t_getR e_rf 4 0 31), (34, t_ldO 3 1 34), (35, t_ldI 2 1 35), (36, t_call0 3 w_X0_whyNoLesson 36), (39, t_if (fun a => a = 0) 52 39), (42, t_throw "java/lang/IllegalStateException"), (52, t_ldO 0 1 52), (53, t_call0 1 w_X4_save 53), (56, t_ldO 0 1 56), (57, t_getR e_rf 4 0 57), (60, t_ldI 1 1 60), (61, t_ldI 2 1 61), (62, t_call0 3 w_X0_tryTeach 62), (65, t_pop 65), (66, t_ldO 3 1 66), (67, t_getI 2 2 67), (70, t_jret)]
theorem st_X4_teach : ∀ x ∈ tb_X4_teach, e_Sd e_rf RX4 i_X4_teach x.1 x.2 :=
  e_more (s_aload_n (k := 0) (by decide +kernel) rfl) (
  e_more (s_getR (c := 4) (j := 0) (idx := 10) (by decide +kernel) (by decide) (by decide) rfl wd_225) (
  e_more (s_iload_n (k := 1) (by decide +kernel) rfl) (
  e_more (e_call0 (s_callV (c := 0) (idx := 86) k_X0_pupilAt (by decide +kernel) cl_X0_pupilAt (by decide) rfl wd_330 wd_331 wd_332 (by decide) (e_sf_rec rfl))) (
  e_more (s_astore_n (k := 3) (by decide +kernel) rfl (by decide)) (
  e_more (s_aload_n (k := 3) (by decide +kernel) rfl) (
  e_more (s_ifnull (off := 10) (by decide +kernel) (by decide)) (
  e_more (s_iload_n (k := 2) (by decide +kernel) rfl) (
  e_more (e_call0 (s_callS (idx := 176) k_X4_isTeacher (by decide +kernel) cl_X4_isTeacher wd_802 wd_803 (by decide))) (
  e_more (s_if_ne (off := 13) (by decide +kernel) (by decide)) (
  e_more (s_throw (text := "no such pupil or teacher") (ik := 90) (is := 179) (ic := 94) ⟨rfl, by decide⟩ ⟨by decide +kernel, wd_257, wd_28, by decide +kernel, xat_94, by decide +kernel, by decide +kernel, (Or.inl ⟨by decide +kernel, by decide +kernel, by decide +kernel⟩)⟩) (
  e_more (s_aload_n (k := 0) (by decide +kernel) rfl) (
  e_more (s_getR (c := 4) (j := 0) (idx := 10) (by decide +kernel) (by decide) (by decide) rfl wd_225) (
  e_more (s_aload_n (k := 3) (by decide +kernel) rfl) (
  e_more (s_iload_n (k := 2) (by decide +kernel) rfl) (
  e_more (e_call0 (s_callV (c := 0) (idx := 181) k_X0_whyNoLesson (by decide +kernel) cl_X0_whyNoLesson (by decide) rfl wd_806 wd_807 wd_808 (by decide) (e_sf_rec rfl))) (
  e_more (s_if_eq (off := 13) (by decide +kernel) (by decide)) (
  e_more (s_throw (text := "the lesson is not possible") (ik := 60) (is := 184) (ic := 64) ⟨rfl, by decide⟩ ⟨by decide +kernel, wd_884, wd_38, by decide +kernel, xat_64, by decide +kernel, by decide +kernel, (Or.inl ⟨by decide +kernel, by decide +kernel, by decide +kernel⟩)⟩) (
  e_more (s_aload_n (k := 0) (by decide +kernel) rfl) (
  e_more (e_call0 (s_callV (c := 4) (idx := 65) k_X4_save (by decide +kernel) cl_X4_save (by decide) rfl wd_900 wd_902 wd_11 (by decide) (e_sf_rec rfl))) (
  e_more (s_aload_n (k := 0) (by decide +kernel) rfl) (
  e_more (s_getR (c := 4) (j := 0) (idx := 10) (by decide +kernel) (by decide) (by decide) rfl wd_225) (
  e_more (s_iload_n (k := 1) (by decide +kernel) rfl) (
  e_more (s_iload_n (k := 2) (by decide +kernel) rfl) (
  e_more (e_call0 (s_callV (c := 0) (idx := 186) k_X0_tryTeach (by decide +kernel) cl_X0_tryTeach (by decide) rfl wd_1053 wd_1054 wd_1055 (by decide) (e_sf_rec rfl))) (
  e_more (s_pop (by decide +kernel)) (
  e_more (s_aload_n (k := 3) (by decide +kernel) rfl) (
  e_more (s_getI (c := 2) (j := 2) (idx := 189) (by decide +kernel) (by decide) (by decide) rfl wd_68) (
  e_more (s_jret (by decide +kernel) rfl) (
  e_no_more)))))))))))))))))))))))))))))
def x_X4_teach : eWX := e_sfx 0 (e_rnx tb_X4_teach (iL i_X4_teach) 1 6)
theorem kx_X4_teach : e_OX e_rf i_X4_teach 1 6 x_X4_teach := kx_sf (kx_rn (own := RX4) ⟨by decide +kernel, rfl⟩ st_X4_teach)
abbrev i_X4_isMarch : eI := (yX4_isMarch, cX4_isMarch, 1, (some .boolean), 0)
theorem cl_X4_isMarch : e_Cl i_X4_isMarch 1 := ⟨wd_256, wd_15, ⟨by decide, by decide⟩, by decide +kernel, by decide⟩
def tb_X4_isMarch : eTb := [(0, t_ldI 0 1 0), (1, t_if (fun a => a < 0) 13 1), (4, t_ldI 0 1 4), (5, t_push (.inl 4) 1 5), (6, t_ic (fun a b => b ≤ a) 13 6), (9, t_push (.inl 1) 1 9), (10, t_goto 14), (13, t_push (.inl 0) 1 13), (14, t_zret)]
theorem st_X4_isMarch : ∀ x ∈ tb_X4_isMarch, e_Sd e_rf RX4 i_X4_isMarch x.1 x.2 :=
  e_more (s_iload_n (k := 0) (by decide +kernel) rfl) (
  e_more (s_if_lt (off := 12) (by decide +kernel) (by decide)) (
  e_more (s_iload_n (k := 0) (by decide +kernel) rfl) (
  e_more (s_iconst (n := 4) (v := 4) (by decide +kernel) (by decide)) (
  e_more (s_ic_ge (off := 7) (by decide +kernel) (by decide)) (
  e_more (s_iconst (n := 1) (v := 1) (by decide +kernel) (by decide)) (
  e_more (s_goto (off := 4) (by decide +kernel) (by decide)) (
  e_more (s_iconst (n := 0) (v := 0) (by decide +kernel) (by decide)) (
  e_more (s_zret (by decide +kernel) rfl) (
  e_no_more)))))))))
def w_X4_isMarch : eW := e_rn tb_X4_isMarch (iL i_X4_isMarch) 0 0
theorem k_X4_isMarch : e_OK e_rf i_X4_isMarch 0 0 w_X4_isMarch := k_rn (own := RX4) ⟨by decide +kernel, rfl⟩ st_X4_isMarch
abbrev i_X4_kindOfPart : eI := (yX4_kindOfPart, cX4_kindOfPart, 2, (some .int), 0)
theorem cl_X4_kindOfPart : e_Cl i_X4_kindOfPart 2 := ⟨wd_348, wd_15, ⟨by decide, by decide⟩, by decide +kernel, by decide⟩
def tb_X4_kindOfPart : eTb := [(0, t_ldI 0 1 0), (1, t_ldI 1 1 1), (2, t_push (.inl 2) 1 2), (3, t_idv (fun a b => a / b) 3), (4, t_ii (fun a b => a + b) 4), (5, t_push (.inl 4) 1 5), (6, t_idv (fun a b => a - a / b * b) 6), (7, t_jret)]
theorem st_X4_kindOfPart : ∀ x ∈ tb_X4_kindOfPart, e_Sd e_rf RX4 i_X4_kindOfPart x.1 x.2 :=
  e_more (s_iload_n (k := 0) (by decide +kernel) rfl) (
  e_more (s_iload_n (k := 1) (by decide +kernel) rfl) (
  e_more (s_iconst (n := 2) (v := 2) (by decide +kernel) (by decide)) (
  e_more (s_idiv (by decide +kernel)) (
  e_more (s_iadd (by decide +kernel)) (
  e_more (s_iconst (n := 4) (v := 4) (by decide +kernel) (by decide)) (
  e_more (s_irem (by decide +kernel)) (
  e_more (s_jret (by decide +kernel) rfl) (
  e_no_more))))))))
def w_X4_kindOfPart : eW := e_rn tb_X4_kindOfPart (iL i_X4_kindOfPart) 0 0
theorem k_X4_kindOfPart : e_OK e_rf i_X4_kindOfPart 0 0 w_X4_kindOfPart := k_rn (own := RX4) ⟨by decide +kernel, rfl⟩ st_X4_kindOfPart
abbrev i_X4_breathOfPart : eI := (yX4_breathOfPart, cX4_breathOfPart, 1, (some .int), 0)
theorem cl_X4_breathOfPart : e_Cl i_X4_breathOfPart 1 := ⟨wd_351, wd_15, ⟨by decide, by decide⟩, by decide +kernel, by decide⟩
def tb_X4_breathOfPart : eTb := [(0, t_push (.inl 4) 1 0), (1, t_push (.inl 2) 1 1), (2, t_ldI 0 1 2), (3, t_ii (fun a b => a * b) 3), (4, t_ii (fun a b => a + b) 4), (5, t_jret)]
theorem st_X4_breathOfPart : ∀ x ∈ tb_X4_breathOfPart, e_Sd e_rf RX4 i_X4_breathOfPart x.1 x.2 :=
  e_more (s_iconst (n := 4) (v := 4) (by decide +kernel) (by decide)) (
  e_more (s_iconst (n := 2) (v := 2) (by decide +kernel) (by decide)) (
  e_more (s_iload_n (k := 0) (by decide +kernel) rfl) (
  e_more (s_imul (by decide +kernel)) (
  e_more (s_iadd (by decide +kernel)) (
  e_more (s_jret (by decide +kernel) rfl) (
  e_no_more))))))
def w_X4_breathOfPart : eW := e_rn tb_X4_breathOfPart (iL i_X4_breathOfPart) 0 0
theorem k_X4_breathOfPart : e_OK e_rf i_X4_breathOfPart 0 0 w_X4_breathOfPart := k_rn (own := RX4) ⟨by decide +kernel, rfl⟩ st_X4_breathOfPart
abbrev i_X4_lipsOfPart : eI := (yX4_lipsOfPart, cX4_lipsOfPart, 3, (some .int), 0)
theorem cl_X4_lipsOfPart : e_Cl i_X4_lipsOfPart 2 := ⟨wd_354, wd_15, ⟨by decide, by decide⟩, by decide +kernel, by decide⟩
def tb_X4_lipsOfPart : eTb := [(0, t_push (.inl 2) 1 0), (1, t_push (.inl 3) 1 1), (2, t_ldI 0 1 2), (3, t_ii (fun a b => a * b) 3), (4, t_ii (fun a b => a + b) 4), (5, t_push (.inl 2) 1 5), (6, t_ldI 1 1 6), (7, t_ii (fun a b => a * b) 7), (8, t_ii (fun a b => a - b) 8), (9, t_stI 2 1 9), (10, t_ldI 2 1 10), (11, t_push (.inl 1) 1 11), (12, t_ic (fun a b => b ≤ a) 19 12), (15, t_push (.inl 1) 1 15), (16, t_goto 20), (19, t_ldI 2 1 19), (20, t_jret)]
theorem st_X4_lipsOfPart : ∀ x ∈ tb_X4_lipsOfPart, e_Sd e_rf RX4 i_X4_lipsOfPart x.1 x.2 :=
  e_more (s_iconst (n := 2) (v := 2) (by decide +kernel) (by decide)) (
  e_more (s_iconst (n := 3) (v := 3) (by decide +kernel) (by decide)) (
  e_more (s_iload_n (k := 0) (by decide +kernel) rfl) (
  e_more (s_imul (by decide +kernel)) (
  e_more (s_iadd (by decide +kernel)) (
  e_more (s_iconst (n := 2) (v := 2) (by decide +kernel) (by decide)) (
  e_more (s_iload_n (k := 1) (by decide +kernel) rfl) (
  e_more (s_imul (by decide +kernel)) (
  e_more (s_isub (by decide +kernel)) (
  e_more (s_istore_n (k := 2) (by decide +kernel) rfl (by decide)) (
  e_more (s_iload_n (k := 2) (by decide +kernel) rfl) (
  e_more (s_iconst (n := 1) (v := 1) (by decide +kernel) (by decide)) (
  e_more (s_ic_ge (off := 7) (by decide +kernel) (by decide)) (
  e_more (s_iconst (n := 1) (v := 1) (by decide +kernel) (by decide)) (
  e_more (s_goto (off := 4) (by decide +kernel) (by decide)) (
  e_more (s_iload_n (k := 2) (by decide +kernel) rfl) (
  e_more (s_jret (by decide +kernel) rfl) (
  e_no_more)))))))))))))))))
def w_X4_lipsOfPart : eW := e_rn tb_X4_lipsOfPart (iL i_X4_lipsOfPart) 0 0
theorem k_X4_lipsOfPart : e_OK e_rf i_X4_lipsOfPart 0 0 w_X4_lipsOfPart := k_rn (own := RX4) ⟨by decide +kernel, rfl⟩ st_X4_lipsOfPart
abbrev i_X4_couldPlay : eI := (yX4_couldPlay, cX4_couldPlay, 5, (some .boolean), 1)
theorem cl_X4_couldPlay : e_Cl i_X4_couldPlay 3 := ⟨wd_337, wd_15, ⟨by decide, by decide⟩, by decide +kernel, by decide⟩
def tb_X4_couldPlay : eTb := [(0, t_ldO 0 1 0), (1, t_getR e_rf 4 0 1), (4, t_ldO 1 1 4), (5, t_getI 2 4 5), (8, t_call0 2 w_X0_instrumentAt 8), (11, t_stO 4 2 11), (13, t_ldO 4 2 13), (15, t_null 66 15), (18, t_ldO 4 2 18), (20, t_call0 1 w_X1_isPlayable 20), (23, t_if (fun a => a = 0) 66 23), (26, t_ldO 4 2 26), (28, t_getI 1 0 28), (31, t_ldI 2 1 31), (32, t_ldI 3 1 32), (33, t_call0 2 w_X4_kindOfPart 33), (36, t_icn (fun a b => a = b) 66 36), (39, t_ldO 1 1 39), (40, t_getI 2 1 40), (43, t_ldI 3 1 43), (44, t_call0 1 w_X4_breathOfPart 44), (47, t_ic (fun a b => a < b) 66 47), (50, t_ldO 1 1 50), (51, t_getI 2 2 51), (54, t_ldI 2 1 54), (55, t_ldI 3 1 55), (56, t_call0 2 w_X4_lipsOfPart 56), (59, t_ic (fun a b => a < b) 66 59), (62, t_push (.inl 1) 1 62), (63, t_goto 67), (66, t_push (.inl 0) 1 66), (67, t_zret)]
theorem st_X4_couldPlay : ∀ x ∈ tb_X4_couldPlay, e_Sd e_rf RX4 i_X4_couldPlay x.1 x.2 :=
  e_more (s_aload_n (k := 0) (by decide +kernel) rfl) (
  e_more (s_getR (c := 4) (j := 0) (idx := 10) (by decide +kernel) (by decide) (by decide) rfl wd_225) (
  e_more (s_aload_n (k := 1) (by decide +kernel) rfl) (
  e_more (s_getI (c := 2) (j := 4) (idx := 343) (by decide +kernel) (by decide) (by decide) rfl wd_74) (
  e_more (e_call0 (s_callV (c := 0) (idx := 82) k_X0_instrumentAt (by decide +kernel) cl_X0_instrumentAt (by decide) rfl wd_338 wd_339 wd_340 (by decide) (e_sf_rec rfl))) (
  e_more (s_astore (by decide +kernel) (by decide)) (
  e_more (s_aload (by decide +kernel)) (
  e_more (s_ifnull (off := 51) (by decide +kernel) (by decide)) (
  e_more (s_aload (by decide +kernel)) (
  e_more (e_call0 (s_callV (c := 1) (idx := 346) k_X1_isPlayable (by decide +kernel) cl_X1_isPlayable (by decide) rfl wd_342 wd_343 wd_344 (by decide) (e_sf_rec rfl))) (
  e_more (s_if_eq (off := 43) (by decide +kernel) (by decide)) (
  e_more (s_aload (by decide +kernel)) (
  e_more (s_getI (c := 1) (j := 0) (idx := 349) (by decide +kernel) (by decide) (by decide) rfl wd_102) (
  e_more (s_iload_n (k := 2) (by decide +kernel) rfl) (
  e_more (s_iload_n (k := 3) (by decide +kernel) rfl) (
  e_more (e_call0 (s_callS (idx := 331) k_X4_kindOfPart (by decide +kernel) cl_X4_kindOfPart wd_346 wd_347 (by decide))) (
  e_more (s_ic_ne (off := 30) (by decide +kernel) (by decide)) (
  e_more (s_aload_n (k := 1) (by decide +kernel) rfl) (
  e_more (s_getI (c := 2) (j := 1) (idx := 352) (by decide +kernel) (by decide) (by decide) rfl wd_66) (
  e_more (s_iload_n (k := 3) (by decide +kernel) rfl) (
  e_more (e_call0 (s_callS (idx := 334) k_X4_breathOfPart (by decide +kernel) cl_X4_breathOfPart wd_349 wd_350 (by decide))) (
  e_more (s_ic_lt (off := 19) (by decide +kernel) (by decide)) (
  e_more (s_aload_n (k := 1) (by decide +kernel) rfl) (
  e_more (s_getI (c := 2) (j := 2) (idx := 189) (by decide +kernel) (by decide) (by decide) rfl wd_68) (
  e_more (s_iload_n (k := 2) (by decide +kernel) rfl) (
  e_more (s_iload_n (k := 3) (by decide +kernel) rfl) (
  e_more (e_call0 (s_callS (idx := 337) k_X4_lipsOfPart (by decide +kernel) cl_X4_lipsOfPart wd_352 wd_353 (by decide))) (
  e_more (s_ic_lt (off := 7) (by decide +kernel) (by decide)) (
  e_more (s_iconst (n := 1) (v := 1) (by decide +kernel) (by decide)) (
  e_more (s_goto (off := 4) (by decide +kernel) (by decide)) (
  e_more (s_iconst (n := 0) (v := 0) (by decide +kernel) (by decide)) (
  e_more (s_zret (by decide +kernel) rfl) (
  e_no_more))))))))))))))))))))))))))))))))
def w_X4_couldPlay : eW := e_sf 0 (e_rn tb_X4_couldPlay (iL i_X4_couldPlay) 0 0)
theorem k_X4_couldPlay : e_OK e_rf i_X4_couldPlay 0 0 w_X4_couldPlay := k_sf (k_rn (own := RX4) ⟨by decide +kernel, rfl⟩ st_X4_couldPlay)
abbrev i_X4_bestFor : eI := (yX4_bestFor, cX4_bestFor, 9, (some .int), 2)
theorem cl_X4_bestFor : e_Cl i_X4_bestFor 3 := ⟨wd_378, wd_15, ⟨by decide, by decide⟩, by decide +kernel, by decide⟩
def tb_X4_bestFor_0 : eTb := [(0, t_push (.inl (-1)) 1 0), (1, t_stI 4 2 1), (3, t_push (.inl (-1)) 1 3), (4, t_stI 5 2 4), (6, t_push (.inl 0) 1 6), (7, t_stI 6 2 7), (9, t_ldI 6 2 9), (11, t_ldO 0 1 11), (12, t_getR e_rf 4 0 12), (15, t_getI 0 1 15), (18, t_ic (fun a b => b ≤ a) 96 18), (21, t_ldO 0 1 21), (22, t_getR e_rf 4 0 22), (25, t_ldI 6 2 25), (27, t_call0 2 w_X0_pupilAt 27), (30, t_stO 7 2 30), (32, t_ldI 3 1 32), (33, t_ldI 6 2 33), (35, t_ii (fun a b => a >>> (b &&& 31)) 35), (36, t_push (.inl 1) 1 36), (37, t_ii (fun a b => a &&& b) 37), (38, t_ifn (fun a => a = 0) 45 38), (41, t_push (.inl 1) 1 41), (42, t_goto 46), (45, t_push (.inl 0) 1 45), (46, t_stI 8 2 46), (48, t_ldO 7 2 48), (50, t_null 90 50), (53, t_ldI 8 2 53), (55, t_if (fun a => a = 0) 90 55), (58, t_ldO 7 2 58), (60, t_getI 2 2 60), (63, t_ldI 5 2 63), (65, t_ic (fun a b => a ≤ b) 90 65), (68, t_ldO 0 1 68), (69, t_ldO 7 2 69), (71, t_ldI 1 1 71), (72, t_ldI 2 1 72), (73, t_call0 4 w_X4_couldPlay 73), (76, t_if (fun a => a = 0) 90 76)]
theorem st_X4_bestFor_0 : ∀ x ∈ tb_X4_bestFor_0, e_Sd e_rf RX4 i_X4_bestFor x.1 x.2 :=
  e_more (s_iconst (n := (-1)) (v := (-1)) (by decide +kernel) (by decide)) (
  e_more (s_istore (by decide +kernel) (by decide)) (
  e_more (s_iconst (n := (-1)) (v := (-1)) (by decide +kernel) (by decide)) (
  e_more (s_istore (by decide +kernel) (by decide)) (
  e_more (s_iconst (n := 0) (v := 0) (by decide +kernel) (by decide)) (
  e_more (s_istore (by decide +kernel) (by decide)) (
  e_more (s_iload (by decide +kernel)) (
  e_more (s_aload_n (k := 0) (by decide +kernel) rfl) (
  e_more (s_getR (c := 4) (j := 0) (idx := 10) (by decide +kernel) (by decide) (by decide) rfl wd_225) (
  e_more (s_getI (c := 0) (j := 1) (idx := 358) (by decide +kernel) (by decide) (by decide) rfl wd_124) (
  e_more (s_ic_ge (off := 78) (by decide +kernel) (by decide)) (
  e_more (s_aload_n (k := 0) (by decide +kernel) rfl) (
  e_more (s_getR (c := 4) (j := 0) (idx := 10) (by decide +kernel) (by decide) (by decide) rfl wd_225) (
  e_more (s_iload (by decide +kernel)) (
  e_more (e_call0 (s_callV (c := 0) (idx := 86) k_X0_pupilAt (by decide +kernel) cl_X0_pupilAt (by decide) rfl wd_330 wd_331 wd_332 (by decide) (e_sf_rec rfl))) (
  e_more (s_astore (by decide +kernel) (by decide)) (
  e_more (s_iload_n (k := 3) (by decide +kernel) rfl) (
  e_more (s_iload (by decide +kernel)) (
  e_more (s_ishr (by decide +kernel)) (
  e_more (s_iconst (n := 1) (v := 1) (by decide +kernel) (by decide)) (
  e_more (s_iand (by decide +kernel)) (
  e_more (s_if_ne (off := 7) (by decide +kernel) (by decide)) (
  e_more (s_iconst (n := 1) (v := 1) (by decide +kernel) (by decide)) (
  e_more (s_goto (off := 4) (by decide +kernel) (by decide)) (
  e_more (s_iconst (n := 0) (v := 0) (by decide +kernel) (by decide)) (
  e_more (s_istore (by decide +kernel) (by decide)) (
  e_more (s_aload (by decide +kernel)) (
  e_more (s_ifnull (off := 40) (by decide +kernel) (by decide)) (
  e_more (s_iload (by decide +kernel)) (
  e_more (s_if_eq (off := 35) (by decide +kernel) (by decide)) (
  e_more (s_aload (by decide +kernel)) (
  e_more (s_getI (c := 2) (j := 2) (idx := 189) (by decide +kernel) (by decide) (by decide) rfl wd_68) (
  e_more (s_iload (by decide +kernel)) (
  e_more (s_ic_le (off := 25) (by decide +kernel) (by decide)) (
  e_more (s_aload_n (k := 0) (by decide +kernel) rfl) (
  e_more (s_aload (by decide +kernel)) (
  e_more (s_iload_n (k := 1) (by decide +kernel) rfl) (
  e_more (s_iload_n (k := 2) (by decide +kernel) rfl) (
  e_more (e_call0 (s_callV (c := 4) (idx := 361) k_X4_couldPlay (by decide +kernel) cl_X4_couldPlay (by decide) rfl wd_334 wd_336 wd_2 (by decide) (e_sf_rec rfl))) (
  e_more (s_if_eq (off := 14) (by decide +kernel) (by decide)) (
  e_no_more))))))))))))))))))))))))))))))))))))))))
def tb_X4_bestFor_1 : eTb := [(79, t_ldI 6 2 79), (81, t_stI 4 2 81), (83, t_ldO 7 2 83), (85, t_getI 2 2 85), (88, t_stI 5 2 88), (90, t_iinc 6 1 90), (93, t_goto 9), (96, t_ldI 4 2 96), (98, t_jret)]
theorem st_X4_bestFor_1 : ∀ x ∈ tb_X4_bestFor_1, e_Sd e_rf RX4 i_X4_bestFor x.1 x.2 :=
  e_more (s_iload (by decide +kernel)) (
  e_more (s_istore (by decide +kernel) (by decide)) (
  e_more (s_aload (by decide +kernel)) (
  e_more (s_getI (c := 2) (j := 2) (idx := 189) (by decide +kernel) (by decide) (by decide) rfl wd_68) (
  e_more (s_istore (by decide +kernel) (by decide)) (
  e_more (s_iinc (z := 1) (n := 1) (by decide +kernel) (by decide) (by decide)) (
  e_more (s_goto (off := (-84)) (by decide +kernel) (by decide)) (
  e_more (s_iload (by decide +kernel)) (
  e_more (s_jret (by decide +kernel) rfl) (
  e_no_more)))))))))
def tb_X4_bestFor : eTb := tb_X4_bestFor_0 ++ tb_X4_bestFor_1
theorem st_X4_bestFor : ∀ x ∈ tb_X4_bestFor, e_Sd e_rf RX4 i_X4_bestFor x.1 x.2 := e_app (st_X4_bestFor_0) st_X4_bestFor_1
def w_X4_bestFor : eW := e_sf 0 (e_rn tb_X4_bestFor (iL i_X4_bestFor) 0 0)
theorem k_X4_bestFor : e_OK e_rf i_X4_bestFor 0 0 w_X4_bestFor := k_sf (k_rn (own := RX4) ⟨by decide +kernel, rfl⟩ st_X4_bestFor)
abbrev i_X4_fillLineUp : eI := (yX4_fillLineUp, cX4_fillLineUp, 6, (some .int), 3)
theorem cl_X4_fillLineUp : e_Cl i_X4_fillLineUp 1 := ⟨wd_374, wd_15, ⟨by decide, by decide⟩, by decide +kernel, by decide⟩
def tb_X4_fillLineUp : eTb := [(0, t_push (.inl 0) 1 0), (1, t_stI 2 1 1), (2, t_push (.inl 0) 1 2), (3, t_stI 3 1 3), (4, t_push (.inl 0) 1 4), (5, t_stI 4 2 5), (7, t_ldI 4 2 7), (9, t_push (.inl 4) 1 9), (10, t_ic (fun a b => b ≤ a) 57 10), (13, t_ldO 0 1 13), (14, t_ldI 1 1 14), (15, t_ldI 4 2 15), (17, t_ldI 2 1 17), (18, t_call0 4 w_X4_bestFor 18), (21, t_stI 5 2 21), (23, t_ldO 0 1 23), (24, t_getR e_rf 4 6 24), (27, t_ldI 4 2 27), (29, t_ldI 5 2 29), (31, t_iast 31), (32, t_ldI 5 2 32), (34, t_push (.inl (-1)) 1 34), (35, t_icn (fun a b => a = b) 44 35), (38, t_iinc 3 1 38), (41, t_goto 51), (44, t_ldI 2 1 44), (45, t_push (.inl 1) 1 45), (46, t_ldI 5 2 46), (48, t_ii (fun a b => a <<< (b &&& 31)) 48), (49, t_ii (fun a b => a ||| b) 49), (50, t_stI 2 1 50), (51, t_iinc 4 1 51), (54, t_goto 7), (57, t_ldI 3 1 57), (58, t_jret)]
theorem st_X4_fillLineUp : ∀ x ∈ tb_X4_fillLineUp, e_Sd e_rf RX4 i_X4_fillLineUp x.1 x.2 :=
  e_more (s_iconst (n := 0) (v := 0) (by decide +kernel) (by decide)) (
  e_more (s_istore_n (k := 2) (by decide +kernel) rfl (by decide)) (
  e_more (s_iconst (n := 0) (v := 0) (by decide +kernel) (by decide)) (
  e_more (s_istore_n (k := 3) (by decide +kernel) rfl (by decide)) (
  e_more (s_iconst (n := 0) (v := 0) (by decide +kernel) (by decide)) (
  e_more (s_istore (by decide +kernel) (by decide)) (
  e_more (s_iload (by decide +kernel)) (
  e_more (s_iconst (n := 4) (v := 4) (by decide +kernel) (by decide)) (
  e_more (s_ic_ge (off := 47) (by decide +kernel) (by decide)) (
  e_more (s_aload_n (k := 0) (by decide +kernel) rfl) (
  e_more (s_iload_n (k := 1) (by decide +kernel) rfl) (
  e_more (s_iload (by decide +kernel)) (
  e_more (s_iload_n (k := 2) (by decide +kernel) rfl) (
  e_more (e_call0 (s_callV (c := 4) (idx := 355) k_X4_bestFor (by decide +kernel) cl_X4_bestFor (by decide) rfl wd_375 wd_377 wd_4 (by decide) (e_sf_rec rfl))) (
  e_more (s_istore (by decide +kernel) (by decide)) (
  e_more (s_aload_n (k := 0) (by decide +kernel) rfl) (
  e_more (s_getR (c := 4) (j := 6) (idx := 38) (by decide +kernel) (by decide) (by decide) rfl wd_231) (
  e_more (s_iload (by decide +kernel)) (
  e_more (s_iload (by decide +kernel)) (
  e_more (s_iast (by decide +kernel)) (
  e_more (s_iload (by decide +kernel)) (
  e_more (s_iconst (n := (-1)) (v := (-1)) (by decide +kernel) (by decide)) (
  e_more (s_ic_ne (off := 9) (by decide +kernel) (by decide)) (
  e_more (s_iinc (z := 1) (n := 1) (by decide +kernel) (by decide) (by decide)) (
  e_more (s_goto (off := 10) (by decide +kernel) (by decide)) (
  e_more (s_iload_n (k := 2) (by decide +kernel) rfl) (
  e_more (s_iconst (n := 1) (v := 1) (by decide +kernel) (by decide)) (
  e_more (s_iload (by decide +kernel)) (
  e_more (s_ishl (by decide +kernel)) (
  e_more (s_ior (by decide +kernel)) (
  e_more (s_istore_n (k := 2) (by decide +kernel) rfl (by decide)) (
  e_more (s_iinc (z := 1) (n := 1) (by decide +kernel) (by decide) (by decide)) (
  e_more (s_goto (off := (-47)) (by decide +kernel) (by decide)) (
  e_more (s_iload_n (k := 3) (by decide +kernel) rfl) (
  e_more (s_jret (by decide +kernel) rfl) (
  e_no_more)))))))))))))))))))))))))))))))))))
def w_X4_fillLineUp : eW := e_sf 0 (e_rn tb_X4_fillLineUp (iL i_X4_fillLineUp) 0 0)
theorem k_X4_fillLineUp : e_OK e_rf i_X4_fillLineUp 0 0 w_X4_fillLineUp := k_sf (k_rn (own := RX4) ⟨by decide +kernel, rfl⟩ st_X4_fillLineUp)
abbrev i_X4_playerOf : eI := (yX4_playerOf, cX4_playerOf, 2, (some .int), 0)
theorem cl_X4_playerOf : e_Cl i_X4_playerOf 1 := ⟨wd_429, wd_15, ⟨by decide, by decide⟩, by decide +kernel, by decide⟩
def tb_X4_playerOf : eTb := [(0, t_ldI 1 1 0), (1, t_if (fun a => a < 0) 22 1), (4, t_ldI 1 1 4), (5, t_ldO 0 1 5), (6, t_getR e_rf 4 6 6), (9, t_alen 9), (10, t_ic (fun a b => b ≤ a) 22 10), (13, t_ldO 0 1 13), (14, t_getR e_rf 4 6 14), (17, t_ldI 1 1 17), (18, t_iald 18), (19, t_goto 23), (22, t_push (.inl (-1)) 1 22), (23, t_jret)]
theorem st_X4_playerOf : ∀ x ∈ tb_X4_playerOf, e_Sd e_rf RX4 i_X4_playerOf x.1 x.2 :=
  e_more (s_iload_n (k := 1) (by decide +kernel) rfl) (
  e_more (s_if_lt (off := 21) (by decide +kernel) (by decide)) (
  e_more (s_iload_n (k := 1) (by decide +kernel) rfl) (
  e_more (s_aload_n (k := 0) (by decide +kernel) rfl) (
  e_more (s_getR (c := 4) (j := 6) (idx := 38) (by decide +kernel) (by decide) (by decide) rfl wd_231) (
  e_more (s_alen (by decide +kernel)) (
  e_more (s_ic_ge (off := 12) (by decide +kernel) (by decide)) (
  e_more (s_aload_n (k := 0) (by decide +kernel) rfl) (
  e_more (s_getR (c := 4) (j := 6) (idx := 38) (by decide +kernel) (by decide) (by decide) rfl wd_231) (
  e_more (s_iload_n (k := 1) (by decide +kernel) rfl) (
  e_more (s_iald (by decide +kernel)) (
  e_more (s_goto (off := 4) (by decide +kernel) (by decide)) (
  e_more (s_iconst (n := (-1)) (v := (-1)) (by decide +kernel) (by decide)) (
  e_more (s_jret (by decide +kernel) rfl) (
  e_no_more))))))))))))))
def w_X4_playerOf : eW := e_sf 0 (e_rn tb_X4_playerOf (iL i_X4_playerOf) 0 0)
theorem k_X4_playerOf : e_OK e_rf i_X4_playerOf 0 0 w_X4_playerOf := k_sf (k_rn (own := RX4) ⟨by decide +kernel, rfl⟩ st_X4_playerOf)
abbrev i_X4_penceFor : eI := (yX4_penceFor, cX4_penceFor, 3, (some .int), 2)
theorem cl_X4_penceFor : e_Cl i_X4_penceFor 1 := ⟨wd_382, wd_15, ⟨by decide, by decide⟩, by decide +kernel, by decide⟩
def tb_X4_penceFor : eTb := [(0, t_ldO 0 1 0), (1, t_getR e_rf 4 0 1), (4, t_push (.inl 2) 1 4), (5, t_call0 2 w_X0_settingAt 5), (8, t_push (.inl 4) 1 8), (9, t_ldI 1 1 9), (10, t_ii (fun a b => a - b) 10), (11, t_ii (fun a b => a * b) 11), (12, t_stI 2 1 12), (13, t_ldI 1 1 13), (14, t_ifn (fun a => a = 0) 23 14), (17, t_push (.inl 2) 1 17), (18, t_ldI 2 1 18), (19, t_ii (fun a b => a * b) 19), (20, t_goto 24), (23, t_ldI 2 1 23), (24, t_jret)]
theorem st_X4_penceFor : ∀ x ∈ tb_X4_penceFor, e_Sd e_rf RX4 i_X4_penceFor x.1 x.2 :=
  e_more (s_aload_n (k := 0) (by decide +kernel) rfl) (
  e_more (s_getR (c := 4) (j := 0) (idx := 10) (by decide +kernel) (by decide) (by decide) rfl wd_225) (
  e_more (s_iconst (n := 2) (v := 2) (by decide +kernel) (by decide)) (
  e_more (e_call0 (s_callV (c := 0) (idx := 161) k_X0_settingAt (by decide +kernel) cl_X0_settingAt (by decide) rfl wd_383 wd_384 wd_385 (by decide) (e_sf_rec rfl))) (
  e_more (s_iconst (n := 4) (v := 4) (by decide +kernel) (by decide)) (
  e_more (s_iload_n (k := 1) (by decide +kernel) rfl) (
  e_more (s_isub (by decide +kernel)) (
  e_more (s_imul (by decide +kernel)) (
  e_more (s_istore_n (k := 2) (by decide +kernel) rfl (by decide)) (
  e_more (s_iload_n (k := 1) (by decide +kernel) rfl) (
  e_more (s_if_ne (off := 9) (by decide +kernel) (by decide)) (
  e_more (s_iconst (n := 2) (v := 2) (by decide +kernel) (by decide)) (
  e_more (s_iload_n (k := 2) (by decide +kernel) rfl) (
  e_more (s_imul (by decide +kernel)) (
  e_more (s_goto (off := 4) (by decide +kernel) (by decide)) (
  e_more (s_iload_n (k := 2) (by decide +kernel) rfl) (
  e_more (s_jret (by decide +kernel) rfl) (
  e_no_more)))))))))))))))))
def w_X4_penceFor : eW := e_sf 0 (e_rn tb_X4_penceFor (iL i_X4_penceFor) 0 0)
theorem k_X4_penceFor : e_OK e_rf i_X4_penceFor 0 0 w_X4_penceFor := k_sf (k_rn (own := RX4) ⟨by decide +kernel, rfl⟩ st_X4_penceFor)
abbrev i_X4_playMarch : eI := (yX4_playMarch, cX4_playMarch, 4, (some .int), 4)
theorem cl_X4_playMarch : e_Cl i_X4_playMarch 1 := ⟨wd_1090, wd_15, ⟨by decide, by decide⟩, by decide +kernel, by decide⟩
def tb_X4_playMarch : eTb := [(0, t_ldO 0 1 0), (1, t_ldI 1 1 1), (2, t_call0 2 w_X4_fillLineUp 2), (5, t_stI 2 1 5), (6, t_push (.inl 0) 1 6), (7, t_stI 3 1 7), (8, t_ldI 3 1 8), (9, t_push (.inl 4) 1 9), (10, t_ic (fun a b => b ≤ a) 35 10), (13, t_ldO 0 1 13), (14, t_getR e_rf 4 0 14), (17, t_ldO 0 1 17), (18, t_ldI 3 1 18), (19, t_call0 2 w_X4_playerOf 19), (22, t_ldI 3 1 22), (23, t_call0 1 w_X4_breathOfPart 23), (26, t_call0 3 w_X0_playPart 26), (29, t_iinc 3 1 29), (32, t_goto 8), (35, t_ldO 0 1 35), (36, t_getR e_rf 4 0 36), (39, t_ldI 2 1 39), (40, t_ldO 0 1 40), (41, t_ldI 2 1 41), (42, t_call0 2 w_X4_penceFor 42), (45, t_call0 3 w_X0_endMarch 45), (48, t_ldI 2 1 48), (49, t_jret)]
theorem st_X4_playMarch : ∀ x ∈ tb_X4_playMarch, e_Sd e_rf RX4 i_X4_playMarch x.1 x.2 :=
  e_more (s_aload_n (k := 0) (by decide +kernel) rfl) (
  e_more (s_iload_n (k := 1) (by decide +kernel) rfl) (
  e_more (e_call0 (s_callV (c := 4) (idx := 279) k_X4_fillLineUp (by decide +kernel) cl_X4_fillLineUp (by decide) rfl wd_371 wd_373 wd_3 (by decide) (e_sf_rec rfl))) (
  e_more (s_istore_n (k := 2) (by decide +kernel) rfl (by decide)) (
  e_more (s_iconst (n := 0) (v := 0) (by decide +kernel) (by decide)) (
  e_more (s_istore_n (k := 3) (by decide +kernel) rfl (by decide)) (
  e_more (s_iload_n (k := 3) (by decide +kernel) rfl) (
  e_more (s_iconst (n := 4) (v := 4) (by decide +kernel) (by decide)) (
  e_more (s_ic_ge (off := 25) (by decide +kernel) (by decide)) (
  e_more (s_aload_n (k := 0) (by decide +kernel) rfl) (
  e_more (s_getR (c := 4) (j := 0) (idx := 10) (by decide +kernel) (by decide) (by decide) rfl wd_225) (
  e_more (s_aload_n (k := 0) (by decide +kernel) rfl) (
  e_more (s_iload_n (k := 3) (by decide +kernel) rfl) (
  e_more (e_call0 (s_callV (c := 4) (idx := 340) k_X4_playerOf (by decide +kernel) cl_X4_playerOf (by decide) rfl wd_426 wd_428 wd_7 (by decide) (e_sf_rec rfl))) (
  e_more (s_iload_n (k := 3) (by decide +kernel) rfl) (
  e_more (e_call0 (s_callS (idx := 334) k_X4_breathOfPart (by decide +kernel) cl_X4_breathOfPart wd_349 wd_350 (by decide))) (
  e_more (e_call0 (s_callV (c := 0) (idx := 365) k_X0_playPart (by decide +kernel) cl_X0_playPart (by decide) rfl wd_1091 wd_1092 wd_1093 (by decide) (e_sf_rec rfl))) (
  e_more (s_iinc (z := 1) (n := 1) (by decide +kernel) (by decide) (by decide)) (
  e_more (s_goto (off := (-24)) (by decide +kernel) (by decide)) (
  e_more (s_aload_n (k := 0) (by decide +kernel) rfl) (
  e_more (s_getR (c := 4) (j := 0) (idx := 10) (by decide +kernel) (by decide) (by decide) rfl wd_225) (
  e_more (s_iload_n (k := 2) (by decide +kernel) rfl) (
  e_more (s_aload_n (k := 0) (by decide +kernel) rfl) (
  e_more (s_iload_n (k := 2) (by decide +kernel) rfl) (
  e_more (e_call0 (s_callV (c := 4) (idx := 285) k_X4_penceFor (by decide +kernel) cl_X4_penceFor (by decide) rfl wd_379 wd_381 wd_5 (by decide) (e_sf_rec rfl))) (
  e_more (e_call0 (s_callV (c := 0) (idx := 368) k_X0_endMarch (by decide +kernel) cl_X0_endMarch (by decide) rfl wd_1100 wd_1101 wd_1102 (by decide) (e_sf_rec rfl))) (
  e_more (s_iload_n (k := 2) (by decide +kernel) rfl) (
  e_more (s_jret (by decide +kernel) rfl) (
  e_no_more))))))))))))))))))))))))))))
def w_X4_playMarch : eW := e_sf 0 (e_rn tb_X4_playMarch (iL i_X4_playMarch) 0 0)
theorem k_X4_playMarch : e_OK e_rf i_X4_playMarch 0 0 w_X4_playMarch := k_sf (k_rn (own := RX4) ⟨by decide +kernel, rfl⟩ st_X4_playMarch)
abbrev i_X4_march : eI := (yX4_march, cX4_march, 2, (some .int), 10)
theorem cl_X4_march : e_Cl i_X4_march 1 := ⟨wd_1081, wd_15, ⟨by decide, by decide⟩, by decide +kernel, by decide⟩
def tb_X4_march : eTb := [(0, t_ldI 1 1 0), (1, t_call0 1 w_X4_isMarch 1), (4, t_ifn (fun a => a = 0) 17 4), (7, t_throw "java/lang/IndexOutOfBoundsException"), (17, t_ldO 0 1 17), (18, t_getR e_rf 4 0 18), (21, t_call0 1 w_X0_mayMarch 21), (24, t_ifn (fun a => a = 0) 37 24), (27, t_throw "java/lang/IllegalStateException"), (37, t_ldO 0 1 37), (38, t_call0 1 w_X4_save 38), (41, t_ldO 0 1 41), (42, t_ldI 1 1 42), (43, t_call0 2 w_X4_playMarch 43), (46, t_jret)]
theorem st_X4_march : ∀ x ∈ tb_X4_march, e_Sd e_rf RX4 i_X4_march x.1 x.2 :=
  e_more (s_iload_n (k := 1) (by decide +kernel) rfl) (
  e_more (e_call0 (s_callS (idx := 194) k_X4_isMarch (by decide +kernel) cl_X4_isMarch wd_254 wd_255 (by decide))) (
  e_more (s_if_ne (off := 13) (by decide +kernel) (by decide)) (
  e_more (s_throw (text := "no such march") (ik := 90) (is := 197) (ic := 94) ⟨rfl, by decide⟩ ⟨by decide +kernel, wd_257, wd_28, by decide +kernel, xat_94, by decide +kernel, by decide +kernel, (Or.inl ⟨by decide +kernel, by decide +kernel, by decide +kernel⟩)⟩) (
  e_more (s_aload_n (k := 0) (by decide +kernel) rfl) (
  e_more (s_getR (c := 4) (j := 0) (idx := 10) (by decide +kernel) (by decide) (by decide) rfl wd_225) (
  e_more (e_call0 (s_callV (c := 0) (idx := 199) k_X0_mayMarch (by decide +kernel) cl_X0_mayMarch (by decide) rfl wd_1082 wd_1083 wd_1084 (by decide) (e_sf_rec rfl))) (
  e_more (s_if_ne (off := 13) (by decide +kernel) (by decide)) (
  e_more (s_throw (text := "no march can be played on this day, or not any more") (ik := 60) (is := 202) (ic := 64) ⟨rfl, by decide⟩ ⟨by decide +kernel, wd_884, wd_38, by decide +kernel, xat_64, by decide +kernel, by decide +kernel, (Or.inl ⟨by decide +kernel, by decide +kernel, by decide +kernel⟩)⟩) (
  e_more (s_aload_n (k := 0) (by decide +kernel) rfl) (
  e_more (e_call0 (s_callV (c := 4) (idx := 65) k_X4_save (by decide +kernel) cl_X4_save (by decide) rfl wd_900 wd_902 wd_11 (by decide) (e_sf_rec rfl))) (
  e_more (s_aload_n (k := 0) (by decide +kernel) rfl) (
  e_more (s_iload_n (k := 1) (by decide +kernel) rfl) (
  e_more (e_call0 (s_callV (c := 4) (idx := 204) k_X4_playMarch (by decide +kernel) cl_X4_playMarch (by decide) rfl wd_1087 wd_1089 wd_13 (by decide) (e_sf_rec rfl))) (
  e_more (s_jret (by decide +kernel) rfl) (
  e_no_more)))))))))))))))
def x_X4_march : eWX := e_sfx 0 (e_rnx tb_X4_march (iL i_X4_march) 1 6)
theorem kx_X4_march : e_OX e_rf i_X4_march 1 6 x_X4_march := kx_sf (kx_rn (own := RX4) ⟨by decide +kernel, rfl⟩ st_X4_march)
