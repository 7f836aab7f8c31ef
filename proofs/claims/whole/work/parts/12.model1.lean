/-! the reference, piece 1: tables and readings, by program. Own work. -/
abbrev i_X5_thrown : eI := (yX5_thrown, cX5_thrown, 1, (some .int), 0)
theorem cl_X5_thrown : e_Cl i_X5_thrown 0 := ⟨wd_1401, wd_82, ⟨by decide, by decide⟩, by decide +kernel, by decide⟩
def tb_X5_thrown : eTb := [(0, t_ldO 0 1 0), (1, t_getI 5 8 1), (4, t_jret)]
theorem st_X5_thrown : ∀ x ∈ tb_X5_thrown, e_Sd e_rf RX5 i_X5_thrown x.1 x.2 :=
  e_more (s_aload_n (k := 0) (by decide +kernel) rfl) (
  e_more (s_getI (c := 5) (j := 8) (idx := 28) (by decide +kernel) (by decide) (by decide) rfl wd_1357) (
  e_more (s_jret (by decide +kernel) rfl) (
  e_no_more)))
def w_X5_thrown : eW := e_sf 13 (e_rn tb_X5_thrown (iL i_X5_thrown) 0 0)
theorem k_X5_thrown : e_OK e_rf i_X5_thrown 0 0 w_X5_thrown := k_sf (k_rn (own := RX5) ⟨by decide +kernel, rfl⟩ st_X5_thrown)
abbrev i_X5_holds : eI := (yX5_holds, cX5_holds, 2, (some .boolean), 0)
theorem cl_X5_holds : e_Cl i_X5_holds 1 := ⟨wd_1412, wd_82, ⟨by decide, by decide⟩, by decide +kernel, by decide⟩
def tb_X5_holds : eTb := [(0, t_ldO 0 1 0), (1, t_ldI 1 1 1), (2, t_putI 5 8 2), (5, t_ldI 1 1 5), (6, t_ifn (fun a => a = 0) 13 6), (9, t_push (.inl 1) 1 9), (10, t_goto 14), (13, t_push (.inl 0) 1 13), (14, t_zret)]
theorem st_X5_holds : ∀ x ∈ tb_X5_holds, e_Sd e_rf RX5 i_X5_holds x.1 x.2 :=
  e_more (s_aload_n (k := 0) (by decide +kernel) rfl) (
  e_more (s_iload_n (k := 1) (by decide +kernel) rfl) (
  e_more (s_putI (c := 5) (j := 8) (idx := 28) (by decide +kernel) (by decide) (by decide) rfl rfl wd_1357) (
  e_more (s_iload_n (k := 1) (by decide +kernel) rfl) (
  e_more (s_if_ne (off := 7) (by decide +kernel) (by decide)) (
  e_more (s_iconst (n := 1) (v := 1) (by decide +kernel) (by decide)) (
  e_more (s_goto (off := 4) (by decide +kernel) (by decide)) (
  e_more (s_iconst (n := 0) (v := 0) (by decide +kernel) (by decide)) (
  e_more (s_zret (by decide +kernel) rfl) (
  e_no_more)))))))))
def w_X5_holds : eW := e_sf 13 (e_rn tb_X5_holds (iL i_X5_holds) 0 0)
theorem k_X5_holds : e_OK e_rf i_X5_holds 0 0 w_X5_holds := k_sf (k_rn (own := RX5) ⟨by decide +kernel, rfl⟩ st_X5_holds)
abbrev i_X5_in : eI := (yX5_in, cX5_in, 3, (some .boolean), 0)
theorem cl_X5_in : e_Cl i_X5_in 3 := ⟨wd_1408, wd_82, ⟨by decide, by decide⟩, by decide +kernel, by decide⟩
def tb_X5_in : eTb := [(0, t_ldI 0 1 0), (1, t_ldI 1 1 1), (2, t_ic (fun a b => a < b) 14 2), (5, t_ldI 0 1 5), (6, t_ldI 2 1 6), (7, t_ic (fun a b => b < a) 14 7), (10, t_push (.inl 1) 1 10), (11, t_goto 15), (14, t_push (.inl 0) 1 14), (15, t_zret)]
theorem st_X5_in : ∀ x ∈ tb_X5_in, e_Sd e_rf RX5 i_X5_in x.1 x.2 :=
  e_more (s_iload_n (k := 0) (by decide +kernel) rfl) (
  e_more (s_iload_n (k := 1) (by decide +kernel) rfl) (
  e_more (s_ic_lt (off := 12) (by decide +kernel) (by decide)) (
  e_more (s_iload_n (k := 0) (by decide +kernel) rfl) (
  e_more (s_iload_n (k := 2) (by decide +kernel) rfl) (
  e_more (s_ic_gt (off := 7) (by decide +kernel) (by decide)) (
  e_more (s_iconst (n := 1) (v := 1) (by decide +kernel) (by decide)) (
  e_more (s_goto (off := 4) (by decide +kernel) (by decide)) (
  e_more (s_iconst (n := 0) (v := 0) (by decide +kernel) (by decide)) (
  e_more (s_zret (by decide +kernel) rfl) (
  e_no_more))))))))))
def w_X5_in : eW := e_rn tb_X5_in (iL i_X5_in) 0 0
theorem k_X5_in : e_OK e_rf i_X5_in 0 0 w_X5_in := k_rn (own := RX5) ⟨by decide +kernel, rfl⟩ st_X5_in
abbrev i_X5_isPupil : eI := (yX5_isPupil, cX5_isPupil, 2, (some .boolean), 1)
theorem cl_X5_isPupil : e_Cl i_X5_isPupil 1 := ⟨wd_1447, wd_82, ⟨by decide, by decide⟩, by decide +kernel, by decide⟩
def tb_X5_isPupil : eTb := [(0, t_ldI 1 1 0), (1, t_push (.inl 0) 1 1), (2, t_ldO 0 1 2), (3, t_getR e_rf 5 0 3), (6, t_ialc 0 1 6), (8, t_push (.inl 1) 1 8), (9, t_ii (fun a b => a - b) 9), (10, t_call0 3 w_X5_in 10), (13, t_zret)]
theorem st_X5_isPupil : ∀ x ∈ tb_X5_isPupil, e_Sd e_rf RX5 i_X5_isPupil x.1 x.2 :=
  e_more (s_iload_n (k := 1) (by decide +kernel) rfl) (
  e_more (s_iconst (n := 0) (v := 0) (by decide +kernel) (by decide)) (
  e_more (s_aload_n (k := 0) (by decide +kernel) rfl) (
  e_more (s_getR (c := 5) (j := 0) (idx := 7) (by decide +kernel) (by decide) (by decide) rfl wd_1349) (
  e_more (s_ialc (n := 0) (x := 0) (s_iconst (n := 0) (v := 0) (by decide +kernel) (by decide)) (by decide +kernel) (by decide) (by decide)) (
  e_more (s_iconst (n := 1) (v := 1) (by decide +kernel) (by decide)) (
  e_more (s_isub (by decide +kernel)) (
  e_more (e_call0 (s_callS (idx := 32) k_X5_in (by decide +kernel) cl_X5_in wd_1406 wd_1407 (by decide))) (
  e_more (s_zret (by decide +kernel) rfl) (
  e_no_more)))))))))
def w_X5_isPupil : eW := e_sf 13 (e_rn tb_X5_isPupil (iL i_X5_isPupil) 0 0)
theorem k_X5_isPupil : e_OK e_rf i_X5_isPupil 0 0 w_X5_isPupil := k_sf (k_rn (own := RX5) ⟨by decide +kernel, rfl⟩ st_X5_isPupil)
abbrev i_X5_isInstrument : eI := (yX5_isInstrument, cX5_isInstrument, 2, (some .boolean), 1)
theorem cl_X5_isInstrument : e_Cl i_X5_isInstrument 1 := ⟨wd_1443, wd_82, ⟨by decide, by decide⟩, by decide +kernel, by decide⟩
def tb_X5_isInstrument : eTb := [(0, t_ldI 1 1 0), (1, t_push (.inl 0) 1 1), (2, t_ldO 0 1 2), (3, t_getR e_rf 5 0 3), (6, t_ialc 1 1 6), (8, t_push (.inl 1) 1 8), (9, t_ii (fun a b => a - b) 9), (10, t_call0 3 w_X5_in 10), (13, t_zret)]
theorem st_X5_isInstrument : ∀ x ∈ tb_X5_isInstrument, e_Sd e_rf RX5 i_X5_isInstrument x.1 x.2 :=
  e_more (s_iload_n (k := 1) (by decide +kernel) rfl) (
  e_more (s_iconst (n := 0) (v := 0) (by decide +kernel) (by decide)) (
  e_more (s_aload_n (k := 0) (by decide +kernel) rfl) (
  e_more (s_getR (c := 5) (j := 0) (idx := 7) (by decide +kernel) (by decide) (by decide) rfl wd_1349) (
  e_more (s_ialc (n := 1) (x := 1) (s_iconst (n := 1) (v := 1) (by decide +kernel) (by decide)) (by decide +kernel) (by decide) (by decide)) (
  e_more (s_iconst (n := 1) (v := 1) (by decide +kernel) (by decide)) (
  e_more (s_isub (by decide +kernel)) (
  e_more (e_call0 (s_callS (idx := 32) k_X5_in (by decide +kernel) cl_X5_in wd_1406 wd_1407 (by decide))) (
  e_more (s_zret (by decide +kernel) rfl) (
  e_no_more)))))))))
def w_X5_isInstrument : eW := e_sf 13 (e_rn tb_X5_isInstrument (iL i_X5_isInstrument) 0 0)
theorem k_X5_isInstrument : e_OK e_rf i_X5_isInstrument 0 0 w_X5_isInstrument := k_sf (k_rn (own := RX5) ⟨by decide +kernel, rfl⟩ st_X5_isInstrument)
abbrev i_X5_isTeacher : eI := (yX5_isTeacher, cX5_isTeacher, 1, (some .boolean), 1)
theorem cl_X5_isTeacher : e_Cl i_X5_isTeacher 1 := ⟨wd_1526, wd_82, ⟨by decide, by decide⟩, by decide +kernel, by decide⟩
def tb_X5_isTeacher : eTb := [(0, t_ldI 0 1 0), (1, t_push (.inl 0) 1 1), (2, t_push (.inl 2) 1 2), (3, t_call0 3 w_X5_in 3), (6, t_zret)]
theorem st_X5_isTeacher : ∀ x ∈ tb_X5_isTeacher, e_Sd e_rf RX5 i_X5_isTeacher x.1 x.2 :=
  e_more (s_iload_n (k := 0) (by decide +kernel) rfl) (
  e_more (s_iconst (n := 0) (v := 0) (by decide +kernel) (by decide)) (
  e_more (s_iconst (n := 2) (v := 2) (by decide +kernel) (by decide)) (
  e_more (e_call0 (s_callS (idx := 32) k_X5_in (by decide +kernel) cl_X5_in wd_1406 wd_1407 (by decide))) (
  e_more (s_zret (by decide +kernel) rfl) (
  e_no_more)))))
def w_X5_isTeacher : eW := e_rn tb_X5_isTeacher (iL i_X5_isTeacher) 0 0
theorem k_X5_isTeacher : e_OK e_rf i_X5_isTeacher 0 0 w_X5_isTeacher := k_rn (own := RX5) ⟨by decide +kernel, rfl⟩ st_X5_isTeacher
abbrev i_X5_isMarch : eI := (yX5_isMarch, cX5_isMarch, 1, (some .boolean), 1)
theorem cl_X5_isMarch : e_Cl i_X5_isMarch 1 := ⟨wd_1559, wd_82, ⟨by decide, by decide⟩, by decide +kernel, by decide⟩
def tb_X5_isMarch : eTb := [(0, t_ldI 0 1 0), (1, t_push (.inl 0) 1 1), (2, t_push (.inl 3) 1 2), (3, t_call0 3 w_X5_in 3), (6, t_zret)]
theorem st_X5_isMarch : ∀ x ∈ tb_X5_isMarch, e_Sd e_rf RX5 i_X5_isMarch x.1 x.2 :=
  e_more (s_iload_n (k := 0) (by decide +kernel) rfl) (
  e_more (s_iconst (n := 0) (v := 0) (by decide +kernel) (by decide)) (
  e_more (s_iconst (n := 3) (v := 3) (by decide +kernel) (by decide)) (
  e_more (e_call0 (s_callS (idx := 32) k_X5_in (by decide +kernel) cl_X5_in wd_1406 wd_1407 (by decide))) (
  e_more (s_zret (by decide +kernel) rfl) (
  e_no_more)))))
def w_X5_isMarch : eW := e_rn tb_X5_isMarch (iL i_X5_isMarch) 0 0
theorem k_X5_isMarch : e_OK e_rf i_X5_isMarch 0 0 w_X5_isMarch := k_rn (own := RX5) ⟨by decide +kernel, rfl⟩ st_X5_isMarch
abbrev i_X5_of : eI := (yX5_of, cX5_of, 3, (some .int), 0)
theorem cl_X5_of : e_Cl i_X5_of 2 := ⟨wd_1459, wd_82, ⟨by decide, by decide⟩, by decide +kernel, by decide⟩
def tb_X5_of : eTb := [(0, t_ldO 0 1 0), (1, t_getR e_rf 5 0 1), (4, t_push (.inl 16) 2 4), (6, t_push (.inl 7) 2 6), (8, t_ldI 1 1 8), (9, t_ii (fun a b => a * b) 9), (10, t_ii (fun a b => a + b) 10), (11, t_ldI 2 1 11), (12, t_ii (fun a b => a + b) 12), (13, t_iald 13), (14, t_jret)]
theorem st_X5_of : ∀ x ∈ tb_X5_of, e_Sd e_rf RX5 i_X5_of x.1 x.2 :=
  e_more (s_aload_n (k := 0) (by decide +kernel) rfl) (
  e_more (s_getR (c := 5) (j := 0) (idx := 7) (by decide +kernel) (by decide) (by decide) rfl wd_1349) (
  e_more (s_bipush (n := 16) (v := 16) (by decide +kernel) (by decide)) (
  e_more (s_bipush (n := 7) (v := 7) (by decide +kernel) (by decide)) (
  e_more (s_iload_n (k := 1) (by decide +kernel) rfl) (
  e_more (s_imul (by decide +kernel)) (
  e_more (s_iadd (by decide +kernel)) (
  e_more (s_iload_n (k := 2) (by decide +kernel) rfl) (
  e_more (s_iadd (by decide +kernel)) (
  e_more (s_iald (by decide +kernel)) (
  e_more (s_jret (by decide +kernel) rfl) (
  e_no_more)))))))))))
def w_X5_of : eW := e_sf 13 (e_rn tb_X5_of (iL i_X5_of) 0 0)
theorem k_X5_of : e_OK e_rf i_X5_of 0 0 w_X5_of := k_sf (k_rn (own := RX5) ⟨by decide +kernel, rfl⟩ st_X5_of)
abbrev i_X5_put : eI := (yX5_put, cX5_put, 4, none, 0)
theorem cl_X5_put : e_Cl i_X5_put 3 := ⟨wd_1423, wd_82, ⟨by decide, by decide⟩, by decide +kernel, by decide⟩
def tb_X5_put : eTb := [(0, t_ldO 0 1 0), (1, t_getR e_rf 5 0 1), (4, t_push (.inl 16) 2 4), (6, t_push (.inl 7) 2 6), (8, t_ldI 1 1 8), (9, t_ii (fun a b => a * b) 9), (10, t_ii (fun a b => a + b) 10), (11, t_ldI 2 1 11), (12, t_ii (fun a b => a + b) 12), (13, t_ldI 3 1 13), (14, t_iast 14), (15, t_ret)]
theorem st_X5_put : ∀ x ∈ tb_X5_put, e_Sd e_rf RX5 i_X5_put x.1 x.2 :=
  e_more (s_aload_n (k := 0) (by decide +kernel) rfl) (
  e_more (s_getR (c := 5) (j := 0) (idx := 7) (by decide +kernel) (by decide) (by decide) rfl wd_1349) (
  e_more (s_bipush (n := 16) (v := 16) (by decide +kernel) (by decide)) (
  e_more (s_bipush (n := 7) (v := 7) (by decide +kernel) (by decide)) (
  e_more (s_iload_n (k := 1) (by decide +kernel) rfl) (
  e_more (s_imul (by decide +kernel)) (
  e_more (s_iadd (by decide +kernel)) (
  e_more (s_iload_n (k := 2) (by decide +kernel) rfl) (
  e_more (s_iadd (by decide +kernel)) (
  e_more (s_iload_n (k := 3) (by decide +kernel) rfl) (
  e_more (s_iast (by decide +kernel)) (
  e_more (s_ret (by decide +kernel) rfl) (
  e_no_more))))))))))))
def w_X5_put : eW := e_sf 13 (e_rn tb_X5_put (iL i_X5_put) 0 0)
theorem k_X5_put : e_OK e_rf i_X5_put 0 0 w_X5_put := k_sf (k_rn (own := RX5) ⟨by decide +kernel, rfl⟩ st_X5_put)
abbrev i_X5_its : eI := (yX5_its, cX5_its, 3, (some .int), 0)
theorem cl_X5_its : e_Cl i_X5_its 2 := ⟨wd_1455, wd_82, ⟨by decide, by decide⟩, by decide +kernel, by decide⟩
def tb_X5_its : eTb := [(0, t_ldO 0 1 0), (1, t_getR e_rf 5 0 1), (4, t_push (.inl 86) 2 4), (6, t_push (.inl 5) 1 6), (7, t_ldI 1 1 7), (8, t_ii (fun a b => a * b) 8), (9, t_ii (fun a b => a + b) 9), (10, t_ldI 2 1 10), (11, t_ii (fun a b => a + b) 11), (12, t_iald 12), (13, t_jret)]
theorem st_X5_its : ∀ x ∈ tb_X5_its, e_Sd e_rf RX5 i_X5_its x.1 x.2 :=
  e_more (s_aload_n (k := 0) (by decide +kernel) rfl) (
  e_more (s_getR (c := 5) (j := 0) (idx := 7) (by decide +kernel) (by decide) (by decide) rfl wd_1349) (
  e_more (s_bipush (n := 86) (v := 86) (by decide +kernel) (by decide)) (
  e_more (s_iconst (n := 5) (v := 5) (by decide +kernel) (by decide)) (
  e_more (s_iload_n (k := 1) (by decide +kernel) rfl) (
  e_more (s_imul (by decide +kernel)) (
  e_more (s_iadd (by decide +kernel)) (
  e_more (s_iload_n (k := 2) (by decide +kernel) rfl) (
  e_more (s_iadd (by decide +kernel)) (
  e_more (s_iald (by decide +kernel)) (
  e_more (s_jret (by decide +kernel) rfl) (
  e_no_more)))))))))))
def w_X5_its : eW := e_sf 13 (e_rn tb_X5_its (iL i_X5_its) 0 0)
theorem k_X5_its : e_OK e_rf i_X5_its 0 0 w_X5_its := k_sf (k_rn (own := RX5) ⟨by decide +kernel, rfl⟩ st_X5_its)
abbrev i_X5_lay : eI := (yX5_lay, cX5_lay, 4, none, 0)
theorem cl_X5_lay : e_Cl i_X5_lay 3 := ⟨wd_1431, wd_82, ⟨by decide, by decide⟩, by decide +kernel, by decide⟩
def tb_X5_lay : eTb := [(0, t_ldO 0 1 0), (1, t_getR e_rf 5 0 1), (4, t_push (.inl 86) 2 4), (6, t_push (.inl 5) 1 6), (7, t_ldI 1 1 7), (8, t_ii (fun a b => a * b) 8), (9, t_ii (fun a b => a + b) 9), (10, t_ldI 2 1 10), (11, t_ii (fun a b => a + b) 11), (12, t_ldI 3 1 12), (13, t_iast 13), (14, t_ret)]
theorem st_X5_lay : ∀ x ∈ tb_X5_lay, e_Sd e_rf RX5 i_X5_lay x.1 x.2 :=
  e_more (s_aload_n (k := 0) (by decide +kernel) rfl) (
  e_more (s_getR (c := 5) (j := 0) (idx := 7) (by decide +kernel) (by decide) (by decide) rfl wd_1349) (
  e_more (s_bipush (n := 86) (v := 86) (by decide +kernel) (by decide)) (
  e_more (s_iconst (n := 5) (v := 5) (by decide +kernel) (by decide)) (
  e_more (s_iload_n (k := 1) (by decide +kernel) rfl) (
  e_more (s_imul (by decide +kernel)) (
  e_more (s_iadd (by decide +kernel)) (
  e_more (s_iload_n (k := 2) (by decide +kernel) rfl) (
  e_more (s_iadd (by decide +kernel)) (
  e_more (s_iload_n (k := 3) (by decide +kernel) rfl) (
  e_more (s_iast (by decide +kernel)) (
  e_more (s_ret (by decide +kernel) rfl) (
  e_no_more))))))))))))
def w_X5_lay : eW := e_sf 13 (e_rn tb_X5_lay (iL i_X5_lay) 0 0)
theorem k_X5_lay : e_OK e_rf i_X5_lay 0 0 w_X5_lay := k_sf (k_rn (own := RX5) ⟨by decide +kernel, rfl⟩ st_X5_lay)
abbrev i_X5_copy : eI := (yX5_copy, cX5_copy, 5, none, 0)
theorem cl_X5_copy : e_Cl i_X5_copy 4 := ⟨wd_1419, wd_82, ⟨by decide, by decide⟩, by decide +kernel, by decide⟩
def tb_X5_copy : eTb := [(0, t_push (.inl 0) 1 0), (1, t_stI 4 2 1), (3, t_ldI 4 2 3), (5, t_push (.inl 146) 3 5), (8, t_ic (fun a b => b ≤ a) 29 8), (11, t_ldO 2 1 11), (12, t_ldI 3 1 12), (13, t_ldI 4 2 13), (15, t_ii (fun a b => a + b) 15), (16, t_ldO 0 1 16), (17, t_ldI 1 1 17), (18, t_ldI 4 2 18), (20, t_ii (fun a b => a + b) 20), (21, t_iald 21), (22, t_iast 22), (23, t_iinc 4 1 23), (26, t_goto 3), (29, t_ret)]
theorem st_X5_copy : ∀ x ∈ tb_X5_copy, e_Sd e_rf RX5 i_X5_copy x.1 x.2 :=
  e_more (s_iconst (n := 0) (v := 0) (by decide +kernel) (by decide)) (
  e_more (s_istore (by decide +kernel) (by decide)) (
  e_more (s_iload (by decide +kernel)) (
  e_more (s_sipush (n := 146) (v := 146) (by decide +kernel) (by decide)) (
  e_more (s_ic_ge (off := 21) (by decide +kernel) (by decide)) (
  e_more (s_aload_n (k := 2) (by decide +kernel) rfl) (
  e_more (s_iload_n (k := 3) (by decide +kernel) rfl) (
  e_more (s_iload (by decide +kernel)) (
  e_more (s_iadd (by decide +kernel)) (
  e_more (s_aload_n (k := 0) (by decide +kernel) rfl) (
  e_more (s_iload_n (k := 1) (by decide +kernel) rfl) (
  e_more (s_iload (by decide +kernel)) (
  e_more (s_iadd (by decide +kernel)) (
  e_more (s_iald (by decide +kernel)) (
  e_more (s_iast (by decide +kernel)) (
  e_more (s_iinc (z := 1) (n := 1) (by decide +kernel) (by decide) (by decide)) (
  e_more (s_goto (off := (-23)) (by decide +kernel) (by decide)) (
  e_more (s_ret (by decide +kernel) rfl) (
  e_no_more))))))))))))))))))
def w_X5_copy : eW := e_rn tb_X5_copy (iL i_X5_copy) 0 0
theorem k_X5_copy : e_OK e_rf i_X5_copy 0 0 w_X5_copy := k_rn (own := RX5) ⟨by decide +kernel, rfl⟩ st_X5_copy
abbrev i_X5_save : eI := (yX5_save, cX5_save, 2, none, 1)
theorem cl_X5_save : e_Cl i_X5_save 0 := ⟨wd_1416, wd_82, ⟨by decide, by decide⟩, by decide +kernel, by decide⟩
def tb_X5_save_0 : eTb := [(0, t_ldO 0 1 0), (1, t_getI 5 2 1), (4, t_push (.inl 6) 2 4), (6, t_icn (fun a b => a = b) 50 6), (9, t_push (.inl 0) 1 9), (10, t_stI 1 1 10), (11, t_ldI 1 1 11), (12, t_push (.inl 730) 3 12), (15, t_ic (fun a b => b ≤ a) 40 15), (18, t_ldO 0 1 18), (19, t_getR e_rf 5 1 19), (22, t_ldI 1 1 22), (23, t_ldO 0 1 23), (24, t_getR e_rf 5 1 24), (27, t_push (.inl 146) 3 27), (30, t_ldI 1 1 30), (31, t_ii (fun a b => a + b) 31), (32, t_iald 32), (33, t_iast 33), (34, t_iinc 1 1 34), (37, t_goto 11), (40, t_ldO 0 1 40), (41, t_dup 41), (42, t_getI 5 2 42), (45, t_push (.inl 1) 1 45), (46, t_ii (fun a b => a - b) 46), (47, t_putI 5 2 47), (50, t_ldO 0 1 50), (51, t_getR e_rf 5 0 51), (54, t_push (.inl 0) 1 54), (55, t_ldO 0 1 55), (56, t_getR e_rf 5 1 56), (59, t_push (.inl 146) 3 59), (62, t_ldO 0 1 62), (63, t_getI 5 2 63), (66, t_ii (fun a b => a * b) 66), (67, t_call0 4 w_X5_copy 67), (70, t_ldO 0 1 70), (71, t_dup 71), (72, t_getI 5 2 72)]
theorem st_X5_save_0 : ∀ x ∈ tb_X5_save_0, e_Sd e_rf RX5 i_X5_save x.1 x.2 :=
  e_more (s_aload_n (k := 0) (by decide +kernel) rfl) (
  e_more (s_getI (c := 5) (j := 2) (idx := 36) (by decide +kernel) (by decide) (by decide) rfl wd_1351) (
  e_more (s_bipush (n := 6) (v := 6) (by decide +kernel) (by decide)) (
  e_more (s_ic_ne (off := 44) (by decide +kernel) (by decide)) (
  e_more (s_iconst (n := 0) (v := 0) (by decide +kernel) (by decide)) (
  e_more (s_istore_n (k := 1) (by decide +kernel) rfl (by decide)) (
  e_more (s_iload_n (k := 1) (by decide +kernel) rfl) (
  e_more (s_sipush (n := 730) (v := 730) (by decide +kernel) (by decide)) (
  e_more (s_ic_ge (off := 25) (by decide +kernel) (by decide)) (
  e_more (s_aload_n (k := 0) (by decide +kernel) rfl) (
  e_more (s_getR (c := 5) (j := 1) (idx := 13) (by decide +kernel) (by decide) (by decide) rfl wd_1350) (
  e_more (s_iload_n (k := 1) (by decide +kernel) rfl) (
  e_more (s_aload_n (k := 0) (by decide +kernel) rfl) (
  e_more (s_getR (c := 5) (j := 1) (idx := 13) (by decide +kernel) (by decide) (by decide) rfl wd_1350) (
  e_more (s_sipush (n := 146) (v := 146) (by decide +kernel) (by decide)) (
  e_more (s_iload_n (k := 1) (by decide +kernel) rfl) (
  e_more (s_iadd (by decide +kernel)) (
  e_more (s_iald (by decide +kernel)) (
  e_more (s_iast (by decide +kernel)) (
  e_more (s_iinc (z := 1) (n := 1) (by decide +kernel) (by decide) (by decide)) (
  e_more (s_goto (off := (-26)) (by decide +kernel) (by decide)) (
  e_more (s_aload_n (k := 0) (by decide +kernel) rfl) (
  e_more (s_dup (by decide +kernel)) (
  e_more (s_getI (c := 5) (j := 2) (idx := 36) (by decide +kernel) (by decide) (by decide) rfl wd_1351) (
  e_more (s_iconst (n := 1) (v := 1) (by decide +kernel) (by decide)) (
  e_more (s_isub (by decide +kernel)) (
  e_more (s_putI (c := 5) (j := 2) (idx := 36) (by decide +kernel) (by decide) (by decide) rfl rfl wd_1351) (
  e_more (s_aload_n (k := 0) (by decide +kernel) rfl) (
  e_more (s_getR (c := 5) (j := 0) (idx := 7) (by decide +kernel) (by decide) (by decide) rfl wd_1349) (
  e_more (s_iconst (n := 0) (v := 0) (by decide +kernel) (by decide)) (
  e_more (s_aload_n (k := 0) (by decide +kernel) rfl) (
  e_more (s_getR (c := 5) (j := 1) (idx := 13) (by decide +kernel) (by decide) (by decide) rfl wd_1350) (
  e_more (s_sipush (n := 146) (v := 146) (by decide +kernel) (by decide)) (
  e_more (s_aload_n (k := 0) (by decide +kernel) rfl) (
  e_more (s_getI (c := 5) (j := 2) (idx := 36) (by decide +kernel) (by decide) (by decide) rfl wd_1351) (
  e_more (s_imul (by decide +kernel)) (
  e_more (e_call0 (s_callS (idx := 39) k_X5_copy (by decide +kernel) cl_X5_copy wd_1417 wd_1418 (by decide))) (
  e_more (s_aload_n (k := 0) (by decide +kernel) rfl) (
  e_more (s_dup (by decide +kernel)) (
  e_more (s_getI (c := 5) (j := 2) (idx := 36) (by decide +kernel) (by decide) (by decide) rfl wd_1351) (
  e_no_more))))))))))))))))))))))))))))))))))))))))
def tb_X5_save_1 : eTb := [(75, t_push (.inl 1) 1 75), (76, t_ii (fun a b => a + b) 76), (77, t_putI 5 2 77), (80, t_ret)]
theorem st_X5_save_1 : ∀ x ∈ tb_X5_save_1, e_Sd e_rf RX5 i_X5_save x.1 x.2 :=
  e_more (s_iconst (n := 1) (v := 1) (by decide +kernel) (by decide)) (
  e_more (s_iadd (by decide +kernel)) (
  e_more (s_putI (c := 5) (j := 2) (idx := 36) (by decide +kernel) (by decide) (by decide) rfl rfl wd_1351) (
  e_more (s_ret (by decide +kernel) rfl) (
  e_no_more))))
def tb_X5_save : eTb := tb_X5_save_0 ++ tb_X5_save_1
theorem st_X5_save : ∀ x ∈ tb_X5_save, e_Sd e_rf RX5 i_X5_save x.1 x.2 := e_app (st_X5_save_0) st_X5_save_1
def w_X5_save : eW := e_sf 13 (e_rn tb_X5_save (iL i_X5_save) 0 0)
theorem k_X5_save : e_OK e_rf i_X5_save 0 0 w_X5_save := k_sf (k_rn (own := RX5) ⟨by decide +kernel, rfl⟩ st_X5_save)
abbrev i_X5_canBePlayed : eI := (yX5_canBePlayed, cX5_canBePlayed, 2, (some .boolean), 1)
theorem cl_X5_canBePlayed : e_Cl i_X5_canBePlayed 1 := ⟨wd_1463, wd_82, ⟨by decide, by decide⟩, by decide +kernel, by decide⟩
def tb_X5_canBePlayed : eTb := [(0, t_ldO 0 1 0), (1, t_ldI 1 1 1), (2, t_push (.inl 1) 1 2), (3, t_call0 3 w_X5_its 3), (6, t_push (.inl 5) 1 6), (7, t_ic (fun a b => b ≤ a) 14 7), (10, t_push (.inl 1) 1 10), (11, t_goto 15), (14, t_push (.inl 0) 1 14), (15, t_zret)]
theorem st_X5_canBePlayed : ∀ x ∈ tb_X5_canBePlayed, e_Sd e_rf RX5 i_X5_canBePlayed x.1 x.2 :=
  e_more (s_aload_n (k := 0) (by decide +kernel) rfl) (
  e_more (s_iload_n (k := 1) (by decide +kernel) rfl) (
  e_more (s_iconst (n := 1) (v := 1) (by decide +kernel) (by decide)) (
  e_more (e_call0 (s_callV (c := 5) (idx := 43) k_X5_its (by decide +kernel) cl_X5_its (by decide) rfl wd_1452 wd_1454 wd_28 (by decide) (e_sf_rec rfl))) (
  e_more (s_iconst (n := 5) (v := 5) (by decide +kernel) (by decide)) (
  e_more (s_ic_ge (off := 7) (by decide +kernel) (by decide)) (
  e_more (s_iconst (n := 1) (v := 1) (by decide +kernel) (by decide)) (
  e_more (s_goto (off := 4) (by decide +kernel) (by decide)) (
  e_more (s_iconst (n := 0) (v := 0) (by decide +kernel) (by decide)) (
  e_more (s_zret (by decide +kernel) rfl) (
  e_no_more))))))))))
def w_X5_canBePlayed : eW := e_sf 13 (e_rn tb_X5_canBePlayed (iL i_X5_canBePlayed) 0 0)
theorem k_X5_canBePlayed : e_OK e_rf i_X5_canBePlayed 0 0 w_X5_canBePlayed := k_sf (k_rn (own := RX5) ⟨by decide +kernel, rfl⟩ st_X5_canBePlayed)
abbrev i_X5_canPlay : eI := (yX5_canPlay, cX5_canPlay, 2, (some .boolean), 2)
theorem cl_X5_canPlay : e_Cl i_X5_canPlay 1 := ⟨wd_1534, wd_82, ⟨by decide, by decide⟩, by decide +kernel, by decide⟩
def tb_X5_canPlay : eTb := [(0, t_ldO 0 1 0), (1, t_ldI 1 1 1), (2, t_push (.inl 4) 1 2), (3, t_call0 3 w_X5_of 3), (6, t_if (fun a => a ≤ 0) 28 6), (9, t_ldO 0 1 9), (10, t_ldO 0 1 10), (11, t_ldI 1 1 11), (12, t_push (.inl 4) 1 12), (13, t_call0 3 w_X5_of 13), (16, t_push (.inl 1) 1 16), (17, t_ii (fun a b => a - b) 17), (18, t_call0 2 w_X5_canBePlayed 18), (21, t_if (fun a => a = 0) 28 21), (24, t_push (.inl 1) 1 24), (25, t_goto 29), (28, t_push (.inl 0) 1 28), (29, t_zret)]
theorem st_X5_canPlay : ∀ x ∈ tb_X5_canPlay, e_Sd e_rf RX5 i_X5_canPlay x.1 x.2 :=
  e_more (s_aload_n (k := 0) (by decide +kernel) rfl) (
  e_more (s_iload_n (k := 1) (by decide +kernel) rfl) (
  e_more (s_iconst (n := 4) (v := 4) (by decide +kernel) (by decide)) (
  e_more (e_call0 (s_callV (c := 5) (idx := 47) k_X5_of (by decide +kernel) cl_X5_of (by decide) rfl wd_1456 wd_1458 wd_29 (by decide) (e_sf_rec rfl))) (
  e_more (s_if_le (off := 22) (by decide +kernel) (by decide)) (
  e_more (s_aload_n (k := 0) (by decide +kernel) rfl) (
  e_more (s_aload_n (k := 0) (by decide +kernel) rfl) (
  e_more (s_iload_n (k := 1) (by decide +kernel) rfl) (
  e_more (s_iconst (n := 4) (v := 4) (by decide +kernel) (by decide)) (
  e_more (e_call0 (s_callV (c := 5) (idx := 47) k_X5_of (by decide +kernel) cl_X5_of (by decide) rfl wd_1456 wd_1458 wd_29 (by decide) (e_sf_rec rfl))) (
  e_more (s_iconst (n := 1) (v := 1) (by decide +kernel) (by decide)) (
  e_more (s_isub (by decide +kernel)) (
  e_more (e_call0 (s_callV (c := 5) (idx := 50) k_X5_canBePlayed (by decide +kernel) cl_X5_canBePlayed (by decide) rfl wd_1460 wd_1462 wd_30 (by decide) (e_sf_rec rfl))) (
  e_more (s_if_eq (off := 7) (by decide +kernel) (by decide)) (
  e_more (s_iconst (n := 1) (v := 1) (by decide +kernel) (by decide)) (
  e_more (s_goto (off := 4) (by decide +kernel) (by decide)) (
  e_more (s_iconst (n := 0) (v := 0) (by decide +kernel) (by decide)) (
  e_more (s_zret (by decide +kernel) rfl) (
  e_no_more))))))))))))))))))
def w_X5_canPlay : eW := e_sf 13 (e_rn tb_X5_canPlay (iL i_X5_canPlay) 0 0)
theorem k_X5_canPlay : e_OK e_rf i_X5_canPlay 0 0 w_X5_canPlay := k_sf (k_rn (own := RX5) ⟨by decide +kernel, rfl⟩ st_X5_canPlay)
abbrev i_X5_kindOf : eI := (yX5_kindOf, cX5_kindOf, 2, (some .int), 1)
theorem cl_X5_kindOf : e_Cl i_X5_kindOf 1 := ⟨wd_1541, wd_82, ⟨by decide, by decide⟩, by decide +kernel, by decide⟩
def tb_X5_kindOf : eTb := [(0, t_ldO 0 1 0), (1, t_ldO 0 1 1), (2, t_ldI 1 1 2), (3, t_push (.inl 4) 1 3), (4, t_call0 3 w_X5_of 4), (7, t_push (.inl 1) 1 7), (8, t_ii (fun a b => a - b) 8), (9, t_push (.inl 0) 1 9), (10, t_call0 3 w_X5_its 10), (13, t_jret)]
theorem st_X5_kindOf : ∀ x ∈ tb_X5_kindOf, e_Sd e_rf RX5 i_X5_kindOf x.1 x.2 :=
  e_more (s_aload_n (k := 0) (by decide +kernel) rfl) (
  e_more (s_aload_n (k := 0) (by decide +kernel) rfl) (
  e_more (s_iload_n (k := 1) (by decide +kernel) rfl) (
  e_more (s_iconst (n := 4) (v := 4) (by decide +kernel) (by decide)) (
  e_more (e_call0 (s_callV (c := 5) (idx := 47) k_X5_of (by decide +kernel) cl_X5_of (by decide) rfl wd_1456 wd_1458 wd_29 (by decide) (e_sf_rec rfl))) (
  e_more (s_iconst (n := 1) (v := 1) (by decide +kernel) (by decide)) (
  e_more (s_isub (by decide +kernel)) (
  e_more (s_iconst (n := 0) (v := 0) (by decide +kernel) (by decide)) (
  e_more (e_call0 (s_callV (c := 5) (idx := 43) k_X5_its (by decide +kernel) cl_X5_its (by decide) rfl wd_1452 wd_1454 wd_28 (by decide) (e_sf_rec rfl))) (
  e_more (s_jret (by decide +kernel) rfl) (
  e_no_more))))))))))
def w_X5_kindOf : eW := e_sf 13 (e_rn tb_X5_kindOf (iL i_X5_kindOf) 0 0)
theorem k_X5_kindOf : e_OK e_rf i_X5_kindOf 0 0 w_X5_kindOf := k_sf (k_rn (own := RX5) ⟨by decide +kernel, rfl⟩ st_X5_kindOf)
abbrev i_X5_reasonOfLoan : eI := (yX5_reasonOfLoan, cX5_reasonOfLoan, 3, (some .int), 2)
theorem cl_X5_reasonOfLoan : e_Cl i_X5_reasonOfLoan 2 := ⟨wd_1451, wd_82, ⟨by decide, by decide⟩, by decide +kernel, by decide⟩
def tb_X5_reasonOfLoan_0 : eTb := [(0, t_ldO 0 1 0), (1, t_ldI 1 1 1), (2, t_push (.inl 2) 1 2), (3, t_call0 3 w_X5_its 3), (6, t_if (fun a => a ≤ 0) 11 6), (9, t_push (.inl 1) 1 9), (10, t_jret), (11, t_ldO 0 1 11), (12, t_ldI 2 1 12), (13, t_push (.inl 4) 1 13), (14, t_call0 3 w_X5_of 14), (17, t_if (fun a => a ≤ 0) 22 17), (20, t_push (.inl 2) 1 20), (21, t_jret), (22, t_ldO 0 1 22), (23, t_ldI 1 1 23), (24, t_call0 2 w_X5_canBePlayed 24), (27, t_ifn (fun a => a = 0) 32 27), (30, t_push (.inl 3) 1 30), (31, t_jret), (32, t_ldO 0 1 32), (33, t_ldI 2 1 33), (34, t_push (.inl 3) 1 34), (35, t_call0 3 w_X5_of 35), (38, t_ldO 0 1 38), (39, t_getR e_rf 5 0 39), (42, t_ialc 14 2 42), (45, t_ic (fun a b => a ≤ b) 52 45), (48, t_push (.inl 4) 1 48), (49, t_goto 76), (52, t_ldO 0 1 52), (53, t_ldI 2 1 53), (54, t_push (.inl 0) 1 54), (55, t_call0 3 w_X5_of 55), (58, t_push (.inl 3) 1 58), (59, t_ldO 0 1 59), (60, t_ldI 1 1 60), (61, t_push (.inl 0) 1 61), (62, t_call0 3 w_X5_its 62), (65, t_ii (fun a b => a * b) 65)]
theorem st_X5_reasonOfLoan_0 : ∀ x ∈ tb_X5_reasonOfLoan_0, e_Sd e_rf RX5 i_X5_reasonOfLoan x.1 x.2 :=
  e_more (s_aload_n (k := 0) (by decide +kernel) rfl) (
  e_more (s_iload_n (k := 1) (by decide +kernel) rfl) (
  e_more (s_iconst (n := 2) (v := 2) (by decide +kernel) (by decide)) (
  e_more (e_call0 (s_callV (c := 5) (idx := 43) k_X5_its (by decide +kernel) cl_X5_its (by decide) rfl wd_1452 wd_1454 wd_28 (by decide) (e_sf_rec rfl))) (
  e_more (s_if_le (off := 5) (by decide +kernel) (by decide)) (
  e_more (s_iconst (n := 1) (v := 1) (by decide +kernel) (by decide)) (
  e_more (s_jret (by decide +kernel) rfl) (
  e_more (s_aload_n (k := 0) (by decide +kernel) rfl) (
  e_more (s_iload_n (k := 2) (by decide +kernel) rfl) (
  e_more (s_iconst (n := 4) (v := 4) (by decide +kernel) (by decide)) (
  e_more (e_call0 (s_callV (c := 5) (idx := 47) k_X5_of (by decide +kernel) cl_X5_of (by decide) rfl wd_1456 wd_1458 wd_29 (by decide) (e_sf_rec rfl))) (
  e_more (s_if_le (off := 5) (by decide +kernel) (by decide)) (
  e_more (s_iconst (n := 2) (v := 2) (by decide +kernel) (by decide)) (
  e_more (s_jret (by decide +kernel) rfl) (
  e_more (s_aload_n (k := 0) (by decide +kernel) rfl) (
  e_more (s_iload_n (k := 1) (by decide +kernel) rfl) (
  e_more (e_call0 (s_callV (c := 5) (idx := 50) k_X5_canBePlayed (by decide +kernel) cl_X5_canBePlayed (by decide) rfl wd_1460 wd_1462 wd_30 (by decide) (e_sf_rec rfl))) (
  e_more (s_if_ne (off := 5) (by decide +kernel) (by decide)) (
  e_more (s_iconst (n := 3) (v := 3) (by decide +kernel) (by decide)) (
  e_more (s_jret (by decide +kernel) rfl) (
  e_more (s_aload_n (k := 0) (by decide +kernel) rfl) (
  e_more (s_iload_n (k := 2) (by decide +kernel) rfl) (
  e_more (s_iconst (n := 3) (v := 3) (by decide +kernel) (by decide)) (
  e_more (e_call0 (s_callV (c := 5) (idx := 47) k_X5_of (by decide +kernel) cl_X5_of (by decide) rfl wd_1456 wd_1458 wd_29 (by decide) (e_sf_rec rfl))) (
  e_more (s_aload_n (k := 0) (by decide +kernel) rfl) (
  e_more (s_getR (c := 5) (j := 0) (idx := 7) (by decide +kernel) (by decide) (by decide) rfl wd_1349) (
  e_more (s_ialc (n := 14) (x := 14) (s_bipush (n := 14) (v := 14) (by decide +kernel) (by decide)) (by decide +kernel) (by decide) (by decide)) (
  e_more (s_ic_le (off := 7) (by decide +kernel) (by decide)) (
  e_more (s_iconst (n := 4) (v := 4) (by decide +kernel) (by decide)) (
  e_more (s_goto (off := 27) (by decide +kernel) (by decide)) (
  e_more (s_aload_n (k := 0) (by decide +kernel) rfl) (
  e_more (s_iload_n (k := 2) (by decide +kernel) rfl) (
  e_more (s_iconst (n := 0) (v := 0) (by decide +kernel) (by decide)) (
  e_more (e_call0 (s_callV (c := 5) (idx := 47) k_X5_of (by decide +kernel) cl_X5_of (by decide) rfl wd_1456 wd_1458 wd_29 (by decide) (e_sf_rec rfl))) (
  e_more (s_iconst (n := 3) (v := 3) (by decide +kernel) (by decide)) (
  e_more (s_aload_n (k := 0) (by decide +kernel) rfl) (
  e_more (s_iload_n (k := 1) (by decide +kernel) rfl) (
  e_more (s_iconst (n := 0) (v := 0) (by decide +kernel) (by decide)) (
  e_more (e_call0 (s_callV (c := 5) (idx := 43) k_X5_its (by decide +kernel) cl_X5_its (by decide) rfl wd_1452 wd_1454 wd_28 (by decide) (e_sf_rec rfl))) (
  e_more (s_imul (by decide +kernel)) (
  e_no_more))))))))))))))))))))))))))))))))))))))))
def tb_X5_reasonOfLoan_1 : eTb := [(66, t_push (.inl 5) 1 66), (67, t_ii (fun a b => a + b) 67), (68, t_ic (fun a b => b ≤ a) 75 68), (71, t_push (.inl 5) 1 71), (72, t_goto 76), (75, t_push (.inl 0) 1 75), (76, t_jret)]
theorem st_X5_reasonOfLoan_1 : ∀ x ∈ tb_X5_reasonOfLoan_1, e_Sd e_rf RX5 i_X5_reasonOfLoan x.1 x.2 :=
  e_more (s_iconst (n := 5) (v := 5) (by decide +kernel) (by decide)) (
  e_more (s_iadd (by decide +kernel)) (
  e_more (s_ic_ge (off := 7) (by decide +kernel) (by decide)) (
  e_more (s_iconst (n := 5) (v := 5) (by decide +kernel) (by decide)) (
  e_more (s_goto (off := 4) (by decide +kernel) (by decide)) (
  e_more (s_iconst (n := 0) (v := 0) (by decide +kernel) (by decide)) (
  e_more (s_jret (by decide +kernel) rfl) (
  e_no_more)))))))
def tb_X5_reasonOfLoan : eTb := tb_X5_reasonOfLoan_0 ++ tb_X5_reasonOfLoan_1
theorem st_X5_reasonOfLoan : ∀ x ∈ tb_X5_reasonOfLoan, e_Sd e_rf RX5 i_X5_reasonOfLoan x.1 x.2 := e_app (st_X5_reasonOfLoan_0) st_X5_reasonOfLoan_1
def w_X5_reasonOfLoan : eW := e_sf 13 (e_rn tb_X5_reasonOfLoan (iL i_X5_reasonOfLoan) 0 0)
theorem k_X5_reasonOfLoan : e_OK e_rf i_X5_reasonOfLoan 0 0 w_X5_reasonOfLoan := k_sf (k_rn (own := RX5) ⟨by decide +kernel, rfl⟩ st_X5_reasonOfLoan)
abbrev i_X5_heightOf : eI := (yX5_heightOf, cX5_heightOf, 1, (some .int), 0)
theorem cl_X5_heightOf : e_Cl i_X5_heightOf 1 := ⟨wd_1537, wd_82, ⟨by decide, by decide⟩, by decide +kernel, by decide⟩
def tb_X5_heightOf : eTb := [(0, t_push (.inl 8) 2 0), (2, t_push (.inl 6) 2 2), (4, t_ldI 0 1 4), (5, t_ii (fun a b => a * b) 5), (6, t_ii (fun a b => a + b) 6), (7, t_jret)]
theorem st_X5_heightOf : ∀ x ∈ tb_X5_heightOf, e_Sd e_rf RX5 i_X5_heightOf x.1 x.2 :=
  e_more (s_bipush (n := 8) (v := 8) (by decide +kernel) (by decide)) (
  e_more (s_bipush (n := 6) (v := 6) (by decide +kernel) (by decide)) (
  e_more (s_iload_n (k := 0) (by decide +kernel) rfl) (
  e_more (s_imul (by decide +kernel)) (
  e_more (s_iadd (by decide +kernel)) (
  e_more (s_jret (by decide +kernel) rfl) (
  e_no_more))))))
def w_X5_heightOf : eW := e_rn tb_X5_heightOf (iL i_X5_heightOf) 0 0
theorem k_X5_heightOf : e_OK e_rf i_X5_heightOf 0 0 w_X5_heightOf := k_rn (own := RX5) ⟨by decide +kernel, rfl⟩ st_X5_heightOf
abbrev i_X5_feeOf : eI := (yX5_feeOf, cX5_feeOf, 1, (some .int), 0)
theorem cl_X5_feeOf : e_Cl i_X5_feeOf 1 := ⟨wd_1548, wd_82, ⟨by decide, by decide⟩, by decide +kernel, by decide⟩
def tb_X5_feeOf : eTb := [(0, t_ldI 0 1 0), (1, t_ifn (fun a => a = 0) 9 1), (4, t_push (.inl 10) 2 4), (6, t_goto 21), (9, t_ldI 0 1 9), (10, t_push (.inl 1) 1 10), (11, t_icn (fun a b => a = b) 19 11), (14, t_push (.inl 25) 2 14), (16, t_goto 21), (19, t_push (.inl 60) 2 19), (21, t_jret)]
theorem st_X5_feeOf : ∀ x ∈ tb_X5_feeOf, e_Sd e_rf RX5 i_X5_feeOf x.1 x.2 :=
  e_more (s_iload_n (k := 0) (by decide +kernel) rfl) (
  e_more (s_if_ne (off := 8) (by decide +kernel) (by decide)) (
  e_more (s_bipush (n := 10) (v := 10) (by decide +kernel) (by decide)) (
  e_more (s_goto (off := 15) (by decide +kernel) (by decide)) (
  e_more (s_iload_n (k := 0) (by decide +kernel) rfl) (
  e_more (s_iconst (n := 1) (v := 1) (by decide +kernel) (by decide)) (
  e_more (s_ic_ne (off := 8) (by decide +kernel) (by decide)) (
  e_more (s_bipush (n := 25) (v := 25) (by decide +kernel) (by decide)) (
  e_more (s_goto (off := 5) (by decide +kernel) (by decide)) (
  e_more (s_bipush (n := 60) (v := 60) (by decide +kernel) (by decide)) (
  e_more (s_jret (by decide +kernel) rfl) (
  e_no_more)))))))))))
def w_X5_feeOf : eW := e_rn tb_X5_feeOf (iL i_X5_feeOf) 0 0
theorem k_X5_feeOf : e_OK e_rf i_X5_feeOf 0 0 w_X5_feeOf := k_rn (own := RX5) ⟨by decide +kernel, rfl⟩ st_X5_feeOf
abbrev i_X5_reasonOfLesson : eI := (yX5_reasonOfLesson, cX5_reasonOfLesson, 3, (some .int), 3)
theorem cl_X5_reasonOfLesson : e_Cl i_X5_reasonOfLesson 2 := ⟨wd_1530, wd_82, ⟨by decide, by decide⟩, by decide +kernel, by decide⟩
def tb_X5_reasonOfLesson : eTb := [(0, t_ldO 0 1 0), (1, t_ldI 1 1 1), (2, t_call0 2 w_X5_canPlay 2), (5, t_ifn (fun a => a = 0) 10 5), (8, t_push (.inl 1) 1 8), (9, t_jret), (10, t_ldO 0 1 10), (11, t_ldI 1 1 11), (12, t_push (.inl 5) 1 12), (13, t_call0 3 w_X5_of 13), (16, t_push (.inl 1) 1 16), (17, t_icn (fun a b => a = b) 22 17), (20, t_push (.inl 2) 1 20), (21, t_jret), (22, t_ldO 0 1 22), (23, t_ldI 1 1 23), (24, t_push (.inl 2) 1 24), (25, t_call0 3 w_X5_of 25), (28, t_ldI 2 1 28), (29, t_call0 1 w_X5_heightOf 29), (32, t_ic (fun a b => a < b) 39 32), (35, t_push (.inl 3) 1 35), (36, t_goto 60), (39, t_ldO 0 1 39), (40, t_ldI 1 1 40), (41, t_push (.inl 1) 1 41), (42, t_call0 3 w_X5_of 42), (45, t_push (.inl 3) 1 45), (46, t_ldO 0 1 46), (47, t_ldI 1 1 47), (48, t_call0 2 w_X5_kindOf 48), (51, t_ii (fun a b => a + b) 51), (52, t_ic (fun a b => b ≤ a) 59 52), (55, t_push (.inl 4) 1 55), (56, t_goto 60), (59, t_push (.inl 0) 1 59), (60, t_jret)]
theorem st_X5_reasonOfLesson : ∀ x ∈ tb_X5_reasonOfLesson, e_Sd e_rf RX5 i_X5_reasonOfLesson x.1 x.2 :=
  e_more (s_aload_n (k := 0) (by decide +kernel) rfl) (
  e_more (s_iload_n (k := 1) (by decide +kernel) rfl) (
  e_more (e_call0 (s_callV (c := 5) (idx := 54) k_X5_canPlay (by decide +kernel) cl_X5_canPlay (by decide) rfl wd_1531 wd_1533 wd_40 (by decide) (e_sf_rec rfl))) (
  e_more (s_if_ne (off := 5) (by decide +kernel) (by decide)) (
  e_more (s_iconst (n := 1) (v := 1) (by decide +kernel) (by decide)) (
  e_more (s_jret (by decide +kernel) rfl) (
  e_more (s_aload_n (k := 0) (by decide +kernel) rfl) (
  e_more (s_iload_n (k := 1) (by decide +kernel) rfl) (
  e_more (s_iconst (n := 5) (v := 5) (by decide +kernel) (by decide)) (
  e_more (e_call0 (s_callV (c := 5) (idx := 47) k_X5_of (by decide +kernel) cl_X5_of (by decide) rfl wd_1456 wd_1458 wd_29 (by decide) (e_sf_rec rfl))) (
  e_more (s_iconst (n := 1) (v := 1) (by decide +kernel) (by decide)) (
  e_more (s_ic_ne (off := 5) (by decide +kernel) (by decide)) (
  e_more (s_iconst (n := 2) (v := 2) (by decide +kernel) (by decide)) (
  e_more (s_jret (by decide +kernel) rfl) (
  e_more (s_aload_n (k := 0) (by decide +kernel) rfl) (
  e_more (s_iload_n (k := 1) (by decide +kernel) rfl) (
  e_more (s_iconst (n := 2) (v := 2) (by decide +kernel) (by decide)) (
  e_more (e_call0 (s_callV (c := 5) (idx := 47) k_X5_of (by decide +kernel) cl_X5_of (by decide) rfl wd_1456 wd_1458 wd_29 (by decide) (e_sf_rec rfl))) (
  e_more (s_iload_n (k := 2) (by decide +kernel) rfl) (
  e_more (e_call0 (s_callS (idx := 57) k_X5_heightOf (by decide +kernel) cl_X5_heightOf wd_1535 wd_1536 (by decide))) (
  e_more (s_ic_lt (off := 7) (by decide +kernel) (by decide)) (
  e_more (s_iconst (n := 3) (v := 3) (by decide +kernel) (by decide)) (
  e_more (s_goto (off := 24) (by decide +kernel) (by decide)) (
  e_more (s_aload_n (k := 0) (by decide +kernel) rfl) (
  e_more (s_iload_n (k := 1) (by decide +kernel) rfl) (
  e_more (s_iconst (n := 1) (v := 1) (by decide +kernel) (by decide)) (
  e_more (e_call0 (s_callV (c := 5) (idx := 47) k_X5_of (by decide +kernel) cl_X5_of (by decide) rfl wd_1456 wd_1458 wd_29 (by decide) (e_sf_rec rfl))) (
  e_more (s_iconst (n := 3) (v := 3) (by decide +kernel) (by decide)) (
  e_more (s_aload_n (k := 0) (by decide +kernel) rfl) (
  e_more (s_iload_n (k := 1) (by decide +kernel) rfl) (
  e_more (e_call0 (s_callV (c := 5) (idx := 61) k_X5_kindOf (by decide +kernel) cl_X5_kindOf (by decide) rfl wd_1538 wd_1540 wd_41 (by decide) (e_sf_rec rfl))) (
  e_more (s_iadd (by decide +kernel)) (
  e_more (s_ic_ge (off := 7) (by decide +kernel) (by decide)) (
  e_more (s_iconst (n := 4) (v := 4) (by decide +kernel) (by decide)) (
  e_more (s_goto (off := 4) (by decide +kernel) (by decide)) (
  e_more (s_iconst (n := 0) (v := 0) (by decide +kernel) (by decide)) (
  e_more (s_jret (by decide +kernel) rfl) (
  e_no_more)))))))))))))))))))))))))))))))))))))
def w_X5_reasonOfLesson : eW := e_sf 13 (e_rn tb_X5_reasonOfLesson (iL i_X5_reasonOfLesson) 0 0)
theorem k_X5_reasonOfLesson : e_OK e_rf i_X5_reasonOfLesson 0 0 w_X5_reasonOfLesson := k_sf (k_rn (own := RX5) ⟨by decide +kernel, rfl⟩ st_X5_reasonOfLesson)
abbrev i_X5_kindFor : eI := (yX5_kindFor, cX5_kindFor, 2, (some .int), 0)
theorem cl_X5_kindFor : e_Cl i_X5_kindFor 2 := ⟨wd_1582, wd_82, ⟨by decide, by decide⟩, by decide +kernel, by decide⟩
def tb_X5_kindFor : eTb := [(0, t_ldI 0 1 0), (1, t_ldI 1 1 1), (2, t_push (.inl 2) 1 2), (3, t_idv (fun a b => a / b) 3), (4, t_ii (fun a b => a + b) 4), (5, t_push (.inl 4) 1 5), (6, t_idv (fun a b => a - a / b * b) 6), (7, t_jret)]
theorem st_X5_kindFor : ∀ x ∈ tb_X5_kindFor, e_Sd e_rf RX5 i_X5_kindFor x.1 x.2 :=
  e_more (s_iload_n (k := 0) (by decide +kernel) rfl) (
  e_more (s_iload_n (k := 1) (by decide +kernel) rfl) (
  e_more (s_iconst (n := 2) (v := 2) (by decide +kernel) (by decide)) (
  e_more (s_idiv (by decide +kernel)) (
  e_more (s_iadd (by decide +kernel)) (
  e_more (s_iconst (n := 4) (v := 4) (by decide +kernel) (by decide)) (
  e_more (s_irem (by decide +kernel)) (
  e_more (s_jret (by decide +kernel) rfl) (
  e_no_more))))))))
def w_X5_kindFor : eW := e_rn tb_X5_kindFor (iL i_X5_kindFor) 0 0
theorem k_X5_kindFor : e_OK e_rf i_X5_kindFor 0 0 w_X5_kindFor := k_rn (own := RX5) ⟨by decide +kernel, rfl⟩ st_X5_kindFor
abbrev i_X5_breathFor : eI := (yX5_breathFor, cX5_breathFor, 1, (some .int), 0)
theorem cl_X5_breathFor : e_Cl i_X5_breathFor 1 := ⟨wd_1585, wd_82, ⟨by decide, by decide⟩, by decide +kernel, by decide⟩
def tb_X5_breathFor : eTb := [(0, t_push (.inl 4) 1 0), (1, t_push (.inl 2) 1 1), (2, t_ldI 0 1 2), (3, t_ii (fun a b => a * b) 3), (4, t_ii (fun a b => a + b) 4), (5, t_jret)]
theorem st_X5_breathFor : ∀ x ∈ tb_X5_breathFor, e_Sd e_rf RX5 i_X5_breathFor x.1 x.2 :=
  e_more (s_iconst (n := 4) (v := 4) (by decide +kernel) (by decide)) (
  e_more (s_iconst (n := 2) (v := 2) (by decide +kernel) (by decide)) (
  e_more (s_iload_n (k := 0) (by decide +kernel) rfl) (
  e_more (s_imul (by decide +kernel)) (
  e_more (s_iadd (by decide +kernel)) (
  e_more (s_jret (by decide +kernel) rfl) (
  e_no_more))))))
def w_X5_breathFor : eW := e_rn tb_X5_breathFor (iL i_X5_breathFor) 0 0
theorem k_X5_breathFor : e_OK e_rf i_X5_breathFor 0 0 w_X5_breathFor := k_rn (own := RX5) ⟨by decide +kernel, rfl⟩ st_X5_breathFor
abbrev i_X5_lipsFor : eI := (yX5_lipsFor, cX5_lipsFor, 3, (some .int), 0)
theorem cl_X5_lipsFor : e_Cl i_X5_lipsFor 2 := ⟨wd_1588, wd_82, ⟨by decide, by decide⟩, by decide +kernel, by decide⟩
def tb_X5_lipsFor : eTb := [(0, t_push (.inl 2) 1 0), (1, t_push (.inl 3) 1 1), (2, t_ldI 0 1 2), (3, t_ii (fun a b => a * b) 3), (4, t_ii (fun a b => a + b) 4), (5, t_push (.inl 2) 1 5), (6, t_ldI 1 1 6), (7, t_ii (fun a b => a * b) 7), (8, t_ii (fun a b => a - b) 8), (9, t_stI 2 1 9), (10, t_ldI 2 1 10), (11, t_push (.inl 1) 1 11), (12, t_ic (fun a b => b ≤ a) 19 12), (15, t_push (.inl 1) 1 15), (16, t_goto 20), (19, t_ldI 2 1 19), (20, t_jret)]
theorem st_X5_lipsFor : ∀ x ∈ tb_X5_lipsFor, e_Sd e_rf RX5 i_X5_lipsFor x.1 x.2 :=
  e_more (s_iconst (n := 2) (v := 2) (by decide +kernel) (by decide)) (
  e_more (s_iconst (n := 3) (v := 3) (by decide +kernel) (by decide)) (
  e_more (s_iload_n (k := 0) (by decide +kernel) rfl) (
  e_more (s_imul (by decide +kernel)) (
  e_more (s_iadd (by decide +kernel)) (
  e_more (s_iconst (n := 2) (v := 2) (by decide +kernel) (by decide)) (
  e_more (s_iload_n (k := 1) (by decide +kernel) rfl) (
  e_more (s_imul (by decide +kernel)) (
  e_more (s_isub (by decide +kernel)) (
  e_more (s_istore_n (k := 2) (by decide +kernel) rfl (by decide)) (
  e_more (s_iload_n (k := 2) (by decide +kernel) rfl) (
  e_more (s_iconst (n := 1) (v := 1) (by decide +kernel) (by decide)) (
  e_more (s_ic_ge (off := 7) (by decide +kernel) (by decide)) (
  e_more (s_iconst (n := 1) (v := 1) (by decide +kernel) (by decide)) (
  e_more (s_goto (off := 4) (by decide +kernel) (by decide)) (
  e_more (s_iload_n (k := 2) (by decide +kernel) rfl) (
  e_more (s_jret (by decide +kernel) rfl) (
  e_no_more)))))))))))))))))
def w_X5_lipsFor : eW := e_rn tb_X5_lipsFor (iL i_X5_lipsFor) 0 0
theorem k_X5_lipsFor : e_OK e_rf i_X5_lipsFor 0 0 w_X5_lipsFor := k_rn (own := RX5) ⟨by decide +kernel, rfl⟩ st_X5_lipsFor
abbrev i_X5_couldPlay : eI := (yX5_couldPlay, cX5_couldPlay, 4, (some .boolean), 3)
theorem cl_X5_couldPlay : e_Cl i_X5_couldPlay 3 := ⟨wd_1579, wd_82, ⟨by decide, by decide⟩, by decide +kernel, by decide⟩
def tb_X5_couldPlay : eTb := [(0, t_ldO 0 1 0), (1, t_ldI 1 1 1), (2, t_call0 2 w_X5_canPlay 2), (5, t_if (fun a => a = 0) 52 5), (8, t_ldO 0 1 8), (9, t_ldI 1 1 9), (10, t_call0 2 w_X5_kindOf 10), (13, t_ldI 2 1 13), (14, t_ldI 3 1 14), (15, t_call0 2 w_X5_kindFor 15), (18, t_icn (fun a b => a = b) 52 18), (21, t_ldO 0 1 21), (22, t_ldI 1 1 22), (23, t_push (.inl 1) 1 23), (24, t_call0 3 w_X5_of 24), (27, t_ldI 3 1 27), (28, t_call0 1 w_X5_breathFor 28), (31, t_ic (fun a b => a < b) 52 31), (34, t_ldO 0 1 34), (35, t_ldI 1 1 35), (36, t_push (.inl 2) 1 36), (37, t_call0 3 w_X5_of 37), (40, t_ldI 2 1 40), (41, t_ldI 3 1 41), (42, t_call0 2 w_X5_lipsFor 42), (45, t_ic (fun a b => a < b) 52 45), (48, t_push (.inl 1) 1 48), (49, t_goto 53), (52, t_push (.inl 0) 1 52), (53, t_zret)]
theorem st_X5_couldPlay : ∀ x ∈ tb_X5_couldPlay, e_Sd e_rf RX5 i_X5_couldPlay x.1 x.2 :=
  e_more (s_aload_n (k := 0) (by decide +kernel) rfl) (
  e_more (s_iload_n (k := 1) (by decide +kernel) rfl) (
  e_more (e_call0 (s_callV (c := 5) (idx := 54) k_X5_canPlay (by decide +kernel) cl_X5_canPlay (by decide) rfl wd_1531 wd_1533 wd_40 (by decide) (e_sf_rec rfl))) (
  e_more (s_if_eq (off := 47) (by decide +kernel) (by decide)) (
  e_more (s_aload_n (k := 0) (by decide +kernel) rfl) (
  e_more (s_iload_n (k := 1) (by decide +kernel) rfl) (
  e_more (e_call0 (s_callV (c := 5) (idx := 61) k_X5_kindOf (by decide +kernel) cl_X5_kindOf (by decide) rfl wd_1538 wd_1540 wd_41 (by decide) (e_sf_rec rfl))) (
  e_more (s_iload_n (k := 2) (by decide +kernel) rfl) (
  e_more (s_iload_n (k := 3) (by decide +kernel) rfl) (
  e_more (e_call0 (s_callS (idx := 64) k_X5_kindFor (by decide +kernel) cl_X5_kindFor wd_1580 wd_1581 (by decide))) (
  e_more (s_ic_ne (off := 34) (by decide +kernel) (by decide)) (
  e_more (s_aload_n (k := 0) (by decide +kernel) rfl) (
  e_more (s_iload_n (k := 1) (by decide +kernel) rfl) (
  e_more (s_iconst (n := 1) (v := 1) (by decide +kernel) (by decide)) (
  e_more (e_call0 (s_callV (c := 5) (idx := 47) k_X5_of (by decide +kernel) cl_X5_of (by decide) rfl wd_1456 wd_1458 wd_29 (by decide) (e_sf_rec rfl))) (
  e_more (s_iload_n (k := 3) (by decide +kernel) rfl) (
  e_more (e_call0 (s_callS (idx := 67) k_X5_breathFor (by decide +kernel) cl_X5_breathFor wd_1583 wd_1584 (by decide))) (
  e_more (s_ic_lt (off := 21) (by decide +kernel) (by decide)) (
  e_more (s_aload_n (k := 0) (by decide +kernel) rfl) (
  e_more (s_iload_n (k := 1) (by decide +kernel) rfl) (
  e_more (s_iconst (n := 2) (v := 2) (by decide +kernel) (by decide)) (
  e_more (e_call0 (s_callV (c := 5) (idx := 47) k_X5_of (by decide +kernel) cl_X5_of (by decide) rfl wd_1456 wd_1458 wd_29 (by decide) (e_sf_rec rfl))) (
  e_more (s_iload_n (k := 2) (by decide +kernel) rfl) (
  e_more (s_iload_n (k := 3) (by decide +kernel) rfl) (
  e_more (e_call0 (s_callS (idx := 70) k_X5_lipsFor (by decide +kernel) cl_X5_lipsFor wd_1586 wd_1587 (by decide))) (
  e_more (s_ic_lt (off := 7) (by decide +kernel) (by decide)) (
  e_more (s_iconst (n := 1) (v := 1) (by decide +kernel) (by decide)) (
  e_more (s_goto (off := 4) (by decide +kernel) (by decide)) (
  e_more (s_iconst (n := 0) (v := 0) (by decide +kernel) (by decide)) (
  e_more (s_zret (by decide +kernel) rfl) (
  e_no_more))))))))))))))))))))))))))))))
def w_X5_couldPlay : eW := e_sf 13 (e_rn tb_X5_couldPlay (iL i_X5_couldPlay) 0 0)
theorem k_X5_couldPlay : e_OK e_rf i_X5_couldPlay 0 0 w_X5_couldPlay := k_sf (k_rn (own := RX5) ⟨by decide +kernel, rfl⟩ st_X5_couldPlay)
abbrev i_X5_lineUp : eI := (yX5_lineUp, cX5_lineUp, 7, (some .int), 4)
theorem cl_X5_lineUp : e_Cl i_X5_lineUp 1 := ⟨wd_1575, wd_82, ⟨by decide, by decide⟩, by decide +kernel, by decide⟩
def tb_X5_lineUp_0 : eTb := [(0, t_push (.inl 0) 1 0), (1, t_stI 2 1 1), (2, t_push (.inl 0) 1 2), (3, t_stI 3 1 3), (4, t_push (.inl 0) 1 4), (5, t_stI 4 2 5), (7, t_ldI 4 2 7), (9, t_push (.inl 4) 1 9), (10, t_ic (fun a b => b ≤ a) 178 10), (13, t_ldO 0 1 13), (14, t_getR e_rf 5 9 14), (17, t_ldI 4 2 17), (19, t_push (.inl (-1)) 1 19), (20, t_iast 20), (21, t_push (.inl 0) 1 21), (22, t_stI 5 2 22), (24, t_ldI 5 2 24), (26, t_ldO 0 1 26), (27, t_getR e_rf 5 0 27), (30, t_ialc 0 1 30), (32, t_ic (fun a b => b ≤ a) 126 32), (35, t_ldI 2 1 35), (36, t_ldI 5 2 36), (38, t_ii (fun a b => a >>> (b &&& 31)) 38), (39, t_push (.inl 1) 1 39), (40, t_ii (fun a b => a &&& b) 40), (41, t_ifn (fun a => a = 0) 60 41), (44, t_ldO 0 1 44), (45, t_ldI 5 2 45), (47, t_ldI 1 1 47), (48, t_ldI 4 2 48), (50, t_call0 4 w_X5_couldPlay 50), (53, t_if (fun a => a = 0) 60 53), (56, t_push (.inl 1) 1 56), (57, t_goto 61), (60, t_push (.inl 0) 1 60), (61, t_stI 6 2 61), (63, t_ldO 0 1 63), (64, t_getR e_rf 5 9 64), (67, t_ldI 4 2 67)]
theorem st_X5_lineUp_0 : ∀ x ∈ tb_X5_lineUp_0, e_Sd e_rf RX5 i_X5_lineUp x.1 x.2 :=
  e_more (s_iconst (n := 0) (v := 0) (by decide +kernel) (by decide)) (
  e_more (s_istore_n (k := 2) (by decide +kernel) rfl (by decide)) (
  e_more (s_iconst (n := 0) (v := 0) (by decide +kernel) (by decide)) (
  e_more (s_istore_n (k := 3) (by decide +kernel) rfl (by decide)) (
  e_more (s_iconst (n := 0) (v := 0) (by decide +kernel) (by decide)) (
  e_more (s_istore (by decide +kernel) (by decide)) (
  e_more (s_iload (by decide +kernel)) (
  e_more (s_iconst (n := 4) (v := 4) (by decide +kernel) (by decide)) (
  e_more (s_ic_ge (off := 168) (by decide +kernel) (by decide)) (
  e_more (s_aload_n (k := 0) (by decide +kernel) rfl) (
  e_more (s_getR (c := 5) (j := 9) (idx := 25) (by decide +kernel) (by decide) (by decide) rfl wd_1358) (
  e_more (s_iload (by decide +kernel)) (
  e_more (s_iconst (n := (-1)) (v := (-1)) (by decide +kernel) (by decide)) (
  e_more (s_iast (by decide +kernel)) (
  e_more (s_iconst (n := 0) (v := 0) (by decide +kernel) (by decide)) (
  e_more (s_istore (by decide +kernel) (by decide)) (
  e_more (s_iload (by decide +kernel)) (
  e_more (s_aload_n (k := 0) (by decide +kernel) rfl) (
  e_more (s_getR (c := 5) (j := 0) (idx := 7) (by decide +kernel) (by decide) (by decide) rfl wd_1349) (
  e_more (s_ialc (n := 0) (x := 0) (s_iconst (n := 0) (v := 0) (by decide +kernel) (by decide)) (by decide +kernel) (by decide) (by decide)) (
  e_more (s_ic_ge (off := 94) (by decide +kernel) (by decide)) (
  e_more (s_iload_n (k := 2) (by decide +kernel) rfl) (
  e_more (s_iload (by decide +kernel)) (
  e_more (s_ishr (by decide +kernel)) (
  e_more (s_iconst (n := 1) (v := 1) (by decide +kernel) (by decide)) (
  e_more (s_iand (by decide +kernel)) (
  e_more (s_if_ne (off := 19) (by decide +kernel) (by decide)) (
  e_more (s_aload_n (k := 0) (by decide +kernel) rfl) (
  e_more (s_iload (by decide +kernel)) (
  e_more (s_iload_n (k := 1) (by decide +kernel) rfl) (
  e_more (s_iload (by decide +kernel)) (
  e_more (e_call0 (s_callV (c := 5) (idx := 73) k_X5_couldPlay (by decide +kernel) cl_X5_couldPlay (by decide) rfl wd_1576 wd_1578 wd_48 (by decide) (e_sf_rec rfl))) (
  e_more (s_if_eq (off := 7) (by decide +kernel) (by decide)) (
  e_more (s_iconst (n := 1) (v := 1) (by decide +kernel) (by decide)) (
  e_more (s_goto (off := 4) (by decide +kernel) (by decide)) (
  e_more (s_iconst (n := 0) (v := 0) (by decide +kernel) (by decide)) (
  e_more (s_istore (by decide +kernel) (by decide)) (
  e_more (s_aload_n (k := 0) (by decide +kernel) rfl) (
  e_more (s_getR (c := 5) (j := 9) (idx := 25) (by decide +kernel) (by decide) (by decide) rfl wd_1358) (
  e_more (s_iload (by decide +kernel)) (
  e_no_more))))))))))))))))))))))))))))))))))))))))
def tb_X5_lineUp_1 : eTb := [(69, t_ldI 6 2 69), (71, t_if (fun a => a = 0) 112 71), (74, t_ldO 0 1 74), (75, t_getR e_rf 5 9 75), (78, t_ldI 4 2 78), (80, t_iald 80), (81, t_push (.inl (-1)) 1 81), (82, t_ic (fun a b => a = b) 107 82), (85, t_ldO 0 1 85), (86, t_ldI 5 2 86), (88, t_push (.inl 2) 1 88), (89, t_call0 3 w_X5_of 89), (92, t_ldO 0 1 92), (93, t_ldO 0 1 93), (94, t_getR e_rf 5 9 94), (97, t_ldI 4 2 97), (99, t_iald 99), (100, t_push (.inl 2) 1 100), (101, t_call0 3 w_X5_of 101), (104, t_ic (fun a b => a ≤ b) 112 104), (107, t_ldI 5 2 107), (109, t_goto 119), (112, t_ldO 0 1 112), (113, t_getR e_rf 5 9 113), (116, t_ldI 4 2 116), (118, t_iald 118), (119, t_iast 119), (120, t_iinc 5 1 120), (123, t_goto 24), (126, t_ldI 2 1 126), (127, t_ldO 0 1 127), (128, t_getR e_rf 5 9 128), (131, t_ldI 4 2 131), (133, t_iald 133), (134, t_push (.inl (-1)) 1 134), (135, t_icn (fun a b => a = b) 142 135), (138, t_push (.inl 0) 1 138), (139, t_goto 151), (142, t_push (.inl 1) 1 142), (143, t_ldO 0 1 143)]
theorem st_X5_lineUp_1 : ∀ x ∈ tb_X5_lineUp_1, e_Sd e_rf RX5 i_X5_lineUp x.1 x.2 :=
  e_more (s_iload (by decide +kernel)) (
  e_more (s_if_eq (off := 41) (by decide +kernel) (by decide)) (
  e_more (s_aload_n (k := 0) (by decide +kernel) rfl) (
  e_more (s_getR (c := 5) (j := 9) (idx := 25) (by decide +kernel) (by decide) (by decide) rfl wd_1358) (
  e_more (s_iload (by decide +kernel)) (
  e_more (s_iald (by decide +kernel)) (
  e_more (s_iconst (n := (-1)) (v := (-1)) (by decide +kernel) (by decide)) (
  e_more (s_ic_eq (off := 25) (by decide +kernel) (by decide)) (
  e_more (s_aload_n (k := 0) (by decide +kernel) rfl) (
  e_more (s_iload (by decide +kernel)) (
  e_more (s_iconst (n := 2) (v := 2) (by decide +kernel) (by decide)) (
  e_more (e_call0 (s_callV (c := 5) (idx := 47) k_X5_of (by decide +kernel) cl_X5_of (by decide) rfl wd_1456 wd_1458 wd_29 (by decide) (e_sf_rec rfl))) (
  e_more (s_aload_n (k := 0) (by decide +kernel) rfl) (
  e_more (s_aload_n (k := 0) (by decide +kernel) rfl) (
  e_more (s_getR (c := 5) (j := 9) (idx := 25) (by decide +kernel) (by decide) (by decide) rfl wd_1358) (
  e_more (s_iload (by decide +kernel)) (
  e_more (s_iald (by decide +kernel)) (
  e_more (s_iconst (n := 2) (v := 2) (by decide +kernel) (by decide)) (
  e_more (e_call0 (s_callV (c := 5) (idx := 47) k_X5_of (by decide +kernel) cl_X5_of (by decide) rfl wd_1456 wd_1458 wd_29 (by decide) (e_sf_rec rfl))) (
  e_more (s_ic_le (off := 8) (by decide +kernel) (by decide)) (
  e_more (s_iload (by decide +kernel)) (
  e_more (s_goto (off := 10) (by decide +kernel) (by decide)) (
  e_more (s_aload_n (k := 0) (by decide +kernel) rfl) (
  e_more (s_getR (c := 5) (j := 9) (idx := 25) (by decide +kernel) (by decide) (by decide) rfl wd_1358) (
  e_more (s_iload (by decide +kernel)) (
  e_more (s_iald (by decide +kernel)) (
  e_more (s_iast (by decide +kernel)) (
  e_more (s_iinc (z := 1) (n := 1) (by decide +kernel) (by decide) (by decide)) (
  e_more (s_goto (off := (-99)) (by decide +kernel) (by decide)) (
  e_more (s_iload_n (k := 2) (by decide +kernel) rfl) (
  e_more (s_aload_n (k := 0) (by decide +kernel) rfl) (
  e_more (s_getR (c := 5) (j := 9) (idx := 25) (by decide +kernel) (by decide) (by decide) rfl wd_1358) (
  e_more (s_iload (by decide +kernel)) (
  e_more (s_iald (by decide +kernel)) (
  e_more (s_iconst (n := (-1)) (v := (-1)) (by decide +kernel) (by decide)) (
  e_more (s_ic_ne (off := 7) (by decide +kernel) (by decide)) (
  e_more (s_iconst (n := 0) (v := 0) (by decide +kernel) (by decide)) (
  e_more (s_goto (off := 12) (by decide +kernel) (by decide)) (
  e_more (s_iconst (n := 1) (v := 1) (by decide +kernel) (by decide)) (
  e_more (s_aload_n (k := 0) (by decide +kernel) rfl) (
  e_no_more))))))))))))))))))))))))))))))))))))))))
def tb_X5_lineUp_2 : eTb := [(144, t_getR e_rf 5 9 144), (147, t_ldI 4 2 147), (149, t_iald 149), (150, t_ii (fun a b => a <<< (b &&& 31)) 150), (151, t_ii (fun a b => a ||| b) 151), (152, t_stI 2 1 152), (153, t_ldI 3 1 153), (154, t_ldO 0 1 154), (155, t_getR e_rf 5 9 155), (158, t_ldI 4 2 158), (160, t_iald 160), (161, t_push (.inl (-1)) 1 161), (162, t_icn (fun a b => a = b) 169 162), (165, t_push (.inl 1) 1 165), (166, t_goto 170), (169, t_push (.inl 0) 1 169), (170, t_ii (fun a b => a + b) 170), (171, t_stI 3 1 171), (172, t_iinc 4 1 172), (175, t_goto 7), (178, t_ldI 3 1 178), (179, t_jret)]
theorem st_X5_lineUp_2 : ∀ x ∈ tb_X5_lineUp_2, e_Sd e_rf RX5 i_X5_lineUp x.1 x.2 :=
  e_more (s_getR (c := 5) (j := 9) (idx := 25) (by decide +kernel) (by decide) (by decide) rfl wd_1358) (
  e_more (s_iload (by decide +kernel)) (
  e_more (s_iald (by decide +kernel)) (
  e_more (s_ishl (by decide +kernel)) (
  e_more (s_ior (by decide +kernel)) (
  e_more (s_istore_n (k := 2) (by decide +kernel) rfl (by decide)) (
  e_more (s_iload_n (k := 3) (by decide +kernel) rfl) (
  e_more (s_aload_n (k := 0) (by decide +kernel) rfl) (
  e_more (s_getR (c := 5) (j := 9) (idx := 25) (by decide +kernel) (by decide) (by decide) rfl wd_1358) (
  e_more (s_iload (by decide +kernel)) (
  e_more (s_iald (by decide +kernel)) (
  e_more (s_iconst (n := (-1)) (v := (-1)) (by decide +kernel) (by decide)) (
  e_more (s_ic_ne (off := 7) (by decide +kernel) (by decide)) (
  e_more (s_iconst (n := 1) (v := 1) (by decide +kernel) (by decide)) (
  e_more (s_goto (off := 4) (by decide +kernel) (by decide)) (
  e_more (s_iconst (n := 0) (v := 0) (by decide +kernel) (by decide)) (
  e_more (s_iadd (by decide +kernel)) (
  e_more (s_istore_n (k := 3) (by decide +kernel) rfl (by decide)) (
  e_more (s_iinc (z := 1) (n := 1) (by decide +kernel) (by decide) (by decide)) (
  e_more (s_goto (off := (-168)) (by decide +kernel) (by decide)) (
  e_more (s_iload_n (k := 3) (by decide +kernel) rfl) (
  e_more (s_jret (by decide +kernel) rfl) (
  e_no_more))))))))))))))))))))))
def tb_X5_lineUp : eTb := tb_X5_lineUp_0 ++ tb_X5_lineUp_1 ++ tb_X5_lineUp_2
theorem st_X5_lineUp : ∀ x ∈ tb_X5_lineUp, e_Sd e_rf RX5 i_X5_lineUp x.1 x.2 := e_app (e_app (st_X5_lineUp_0) st_X5_lineUp_1) st_X5_lineUp_2
def w_X5_lineUp : eW := e_sf 13 (e_rn tb_X5_lineUp (iL i_X5_lineUp) 0 0)
theorem k_X5_lineUp : e_OK e_rf i_X5_lineUp 0 0 w_X5_lineUp := k_sf (k_rn (own := RX5) ⟨by decide +kernel, rfl⟩ st_X5_lineUp)
abbrev i_X5_penceOf : eI := (yX5_penceOf, cX5_penceOf, 3, (some .int), 5)
theorem cl_X5_penceOf : e_Cl i_X5_penceOf 1 := ⟨wd_1571, wd_82, ⟨by decide, by decide⟩, by decide +kernel, by decide⟩
def tb_X5_penceOf : eTb := [(0, t_ldO 0 1 0), (1, t_ldI 1 1 1), (2, t_call0 2 w_X5_lineUp 2), (5, t_stI 2 1 5), (6, t_ldO 0 1 6), (7, t_getR e_rf 5 0 7), (10, t_ialc 15 2 10), (13, t_push (.inl 4) 1 13), (14, t_ldI 2 1 14), (15, t_ii (fun a b => a - b) 15), (16, t_ii (fun a b => a * b) 16), (17, t_ldI 2 1 17), (18, t_ifn (fun a => a = 0) 25 18), (21, t_push (.inl 2) 1 21), (22, t_goto 26), (25, t_push (.inl 1) 1 25), (26, t_ii (fun a b => a * b) 26), (27, t_jret)]
theorem st_X5_penceOf : ∀ x ∈ tb_X5_penceOf, e_Sd e_rf RX5 i_X5_penceOf x.1 x.2 :=
  e_more (s_aload_n (k := 0) (by decide +kernel) rfl) (
  e_more (s_iload_n (k := 1) (by decide +kernel) rfl) (
  e_more (e_call0 (s_callV (c := 5) (idx := 76) k_X5_lineUp (by decide +kernel) cl_X5_lineUp (by decide) rfl wd_1572 wd_1574 wd_47 (by decide) (e_sf_rec rfl))) (
  e_more (s_istore_n (k := 2) (by decide +kernel) rfl (by decide)) (
  e_more (s_aload_n (k := 0) (by decide +kernel) rfl) (
  e_more (s_getR (c := 5) (j := 0) (idx := 7) (by decide +kernel) (by decide) (by decide) rfl wd_1349) (
  e_more (s_ialc (n := 15) (x := 15) (s_bipush (n := 15) (v := 15) (by decide +kernel) (by decide)) (by decide +kernel) (by decide) (by decide)) (
  e_more (s_iconst (n := 4) (v := 4) (by decide +kernel) (by decide)) (
  e_more (s_iload_n (k := 2) (by decide +kernel) rfl) (
  e_more (s_isub (by decide +kernel)) (
  e_more (s_imul (by decide +kernel)) (
  e_more (s_iload_n (k := 2) (by decide +kernel) rfl) (
  e_more (s_if_ne (off := 7) (by decide +kernel) (by decide)) (
  e_more (s_iconst (n := 2) (v := 2) (by decide +kernel) (by decide)) (
  e_more (s_goto (off := 4) (by decide +kernel) (by decide)) (
  e_more (s_iconst (n := 1) (v := 1) (by decide +kernel) (by decide)) (
  e_more (s_imul (by decide +kernel)) (
  e_more (s_jret (by decide +kernel) rfl) (
  e_no_more))))))))))))))))))
def w_X5_penceOf : eW := e_sf 13 (e_rn tb_X5_penceOf (iL i_X5_penceOf) 0 0)
theorem k_X5_penceOf : e_OK e_rf i_X5_penceOf 0 0 w_X5_penceOf := k_sf (k_rn (own := RX5) ⟨by decide +kernel, rfl⟩ st_X5_penceOf)
abbrev i_X5_isSunday : eI := (yX5_isSunday, cX5_isSunday, 1, (some .boolean), 0)
theorem cl_X5_isSunday : e_Cl i_X5_isSunday 0 := ⟨wd_1563, wd_82, ⟨by decide, by decide⟩, by decide +kernel, by decide⟩
def tb_X5_isSunday : eTb := [(0, t_ldO 0 1 0), (1, t_getR e_rf 5 0 1), (4, t_ialc 3 1 4), (6, t_push (.inl 7) 2 6), (8, t_idv (fun a b => a - a / b * b) 8), (9, t_push (.inl 6) 2 9), (11, t_icn (fun a b => a = b) 18 11), (14, t_push (.inl 1) 1 14), (15, t_goto 19), (18, t_push (.inl 0) 1 18), (19, t_zret)]
theorem st_X5_isSunday : ∀ x ∈ tb_X5_isSunday, e_Sd e_rf RX5 i_X5_isSunday x.1 x.2 :=
  e_more (s_aload_n (k := 0) (by decide +kernel) rfl) (
  e_more (s_getR (c := 5) (j := 0) (idx := 7) (by decide +kernel) (by decide) (by decide) rfl wd_1349) (
  e_more (s_ialc (n := 3) (x := 3) (s_iconst (n := 3) (v := 3) (by decide +kernel) (by decide)) (by decide +kernel) (by decide) (by decide)) (
  e_more (s_bipush (n := 7) (v := 7) (by decide +kernel) (by decide)) (
  e_more (s_irem (by decide +kernel)) (
  e_more (s_bipush (n := 6) (v := 6) (by decide +kernel) (by decide)) (
  e_more (s_ic_ne (off := 7) (by decide +kernel) (by decide)) (
  e_more (s_iconst (n := 1) (v := 1) (by decide +kernel) (by decide)) (
  e_more (s_goto (off := 4) (by decide +kernel) (by decide)) (
  e_more (s_iconst (n := 0) (v := 0) (by decide +kernel) (by decide)) (
  e_more (s_zret (by decide +kernel) rfl) (
  e_no_more)))))))))))
def w_X5_isSunday : eW := e_sf 13 (e_rn tb_X5_isSunday (iL i_X5_isSunday) 0 0)
theorem k_X5_isSunday : e_OK e_rf i_X5_isSunday 0 0 w_X5_isSunday := k_sf (k_rn (own := RX5) ⟨by decide +kernel, rfl⟩ st_X5_isSunday)
abbrev i_X5_dents : eI := (yX5_dents, cX5_dents, 5, none, 1)
theorem cl_X5_dents : e_Cl i_X5_dents 2 := ⟨wd_1487, wd_82, ⟨by decide, by decide⟩, by decide +kernel, by decide⟩
def tb_X5_dents_0 : eTb := [(0, t_ldO 0 1 0), (1, t_ldI 1 1 1), (2, t_push (.inl 1) 1 2), (3, t_call0 3 w_X5_its 3), (6, t_stI 3 1 6), (7, t_ldI 3 1 7), (8, t_ldI 2 1 8), (9, t_ii (fun a b => a + b) 9), (10, t_push (.inl 9) 2 10), (12, t_ic (fun a b => a ≤ b) 20 12), (15, t_push (.inl 9) 2 15), (17, t_goto 23), (20, t_ldI 3 1 20), (21, t_ldI 2 1 21), (22, t_ii (fun a b => a + b) 22), (23, t_stI 4 2 23), (25, t_ldO 0 1 25), (26, t_ldI 1 1 26), (27, t_push (.inl 1) 1 27), (28, t_ldI 4 2 28), (30, t_call0 4 w_X5_lay 30), (33, t_ldO 0 1 33), (34, t_ldI 1 1 34), (35, t_push (.inl 4) 1 35), (36, t_ldO 0 1 36), (37, t_ldI 1 1 37), (38, t_push (.inl 2) 1 38), (39, t_call0 3 w_X5_its 39), (42, t_if (fun a => a ≤ 0) 59 42), (45, t_ldO 0 1 45), (46, t_ldI 1 1 46), (47, t_push (.inl 4) 1 47), (48, t_call0 3 w_X5_its 48), (51, t_ldI 4 2 51), (53, t_ii (fun a b => a + b) 53), (54, t_ldI 3 1 54), (55, t_ii (fun a b => a - b) 55), (56, t_goto 60), (59, t_push (.inl 0) 1 59), (60, t_call0 4 w_X5_lay 60)]
theorem st_X5_dents_0 : ∀ x ∈ tb_X5_dents_0, e_Sd e_rf RX5 i_X5_dents x.1 x.2 :=
  e_more (s_aload_n (k := 0) (by decide +kernel) rfl) (
  e_more (s_iload_n (k := 1) (by decide +kernel) rfl) (
  e_more (s_iconst (n := 1) (v := 1) (by decide +kernel) (by decide)) (
  e_more (e_call0 (s_callV (c := 5) (idx := 43) k_X5_its (by decide +kernel) cl_X5_its (by decide) rfl wd_1452 wd_1454 wd_28 (by decide) (e_sf_rec rfl))) (
  e_more (s_istore_n (k := 3) (by decide +kernel) rfl (by decide)) (
  e_more (s_iload_n (k := 3) (by decide +kernel) rfl) (
  e_more (s_iload_n (k := 2) (by decide +kernel) rfl) (
  e_more (s_iadd (by decide +kernel)) (
  e_more (s_bipush (n := 9) (v := 9) (by decide +kernel) (by decide)) (
  e_more (s_ic_le (off := 8) (by decide +kernel) (by decide)) (
  e_more (s_bipush (n := 9) (v := 9) (by decide +kernel) (by decide)) (
  e_more (s_goto (off := 6) (by decide +kernel) (by decide)) (
  e_more (s_iload_n (k := 3) (by decide +kernel) rfl) (
  e_more (s_iload_n (k := 2) (by decide +kernel) rfl) (
  e_more (s_iadd (by decide +kernel)) (
  e_more (s_istore (by decide +kernel) (by decide)) (
  e_more (s_aload_n (k := 0) (by decide +kernel) rfl) (
  e_more (s_iload_n (k := 1) (by decide +kernel) rfl) (
  e_more (s_iconst (n := 1) (v := 1) (by decide +kernel) (by decide)) (
  e_more (s_iload (by decide +kernel)) (
  e_more (e_call0 (s_callV (c := 5) (idx := 79) k_X5_lay (by decide +kernel) cl_X5_lay (by decide) rfl wd_1428 wd_1430 wd_23 (by decide) (e_sf_rec rfl))) (
  e_more (s_aload_n (k := 0) (by decide +kernel) rfl) (
  e_more (s_iload_n (k := 1) (by decide +kernel) rfl) (
  e_more (s_iconst (n := 4) (v := 4) (by decide +kernel) (by decide)) (
  e_more (s_aload_n (k := 0) (by decide +kernel) rfl) (
  e_more (s_iload_n (k := 1) (by decide +kernel) rfl) (
  e_more (s_iconst (n := 2) (v := 2) (by decide +kernel) (by decide)) (
  e_more (e_call0 (s_callV (c := 5) (idx := 43) k_X5_its (by decide +kernel) cl_X5_its (by decide) rfl wd_1452 wd_1454 wd_28 (by decide) (e_sf_rec rfl))) (
  e_more (s_if_le (off := 17) (by decide +kernel) (by decide)) (
  e_more (s_aload_n (k := 0) (by decide +kernel) rfl) (
  e_more (s_iload_n (k := 1) (by decide +kernel) rfl) (
  e_more (s_iconst (n := 4) (v := 4) (by decide +kernel) (by decide)) (
  e_more (e_call0 (s_callV (c := 5) (idx := 43) k_X5_its (by decide +kernel) cl_X5_its (by decide) rfl wd_1452 wd_1454 wd_28 (by decide) (e_sf_rec rfl))) (
  e_more (s_iload (by decide +kernel)) (
  e_more (s_iadd (by decide +kernel)) (
  e_more (s_iload_n (k := 3) (by decide +kernel) rfl) (
  e_more (s_isub (by decide +kernel)) (
  e_more (s_goto (off := 4) (by decide +kernel) (by decide)) (
  e_more (s_iconst (n := 0) (v := 0) (by decide +kernel) (by decide)) (
  e_more (e_call0 (s_callV (c := 5) (idx := 79) k_X5_lay (by decide +kernel) cl_X5_lay (by decide) rfl wd_1428 wd_1430 wd_23 (by decide) (e_sf_rec rfl))) (
  e_no_more))))))))))))))))))))))))))))))))))))))))
def tb_X5_dents_1 : eTb := [(63, t_ret)]
theorem st_X5_dents_1 : ∀ x ∈ tb_X5_dents_1, e_Sd e_rf RX5 i_X5_dents x.1 x.2 :=
  e_more (s_ret (by decide +kernel) rfl) (
  e_no_more)
def tb_X5_dents : eTb := tb_X5_dents_0 ++ tb_X5_dents_1
theorem st_X5_dents : ∀ x ∈ tb_X5_dents, e_Sd e_rf RX5 i_X5_dents x.1 x.2 := e_app (st_X5_dents_0) st_X5_dents_1
def w_X5_dents : eW := e_sf 13 (e_rn tb_X5_dents (iL i_X5_dents) 0 0)
theorem k_X5_dents : e_OK e_rf i_X5_dents 0 0 w_X5_dents := k_sf (k_rn (own := RX5) ⟨by decide +kernel, rfl⟩ st_X5_dents)
abbrev i_X5_doLend : eI := (yX5_doLend, cX5_doLend, 3, (some .int), 1)
theorem cl_X5_doLend : e_Cl i_X5_doLend 2 := ⟨wd_1467, wd_82, ⟨by decide, by decide⟩, by decide +kernel, by decide⟩
def tb_X5_doLend : eTb := [(0, t_ldO 0 1 0), (1, t_ldI 1 1 1), (2, t_push (.inl 2) 1 2), (3, t_ldI 2 1 3), (4, t_push (.inl 1) 1 4), (5, t_ii (fun a b => a + b) 5), (6, t_call0 4 w_X5_lay 6), (9, t_ldO 0 1 9), (10, t_ldI 1 1 10), (11, t_push (.inl 4) 1 11), (12, t_push (.inl 0) 1 12), (13, t_call0 4 w_X5_lay 13), (16, t_ldO 0 1 16), (17, t_ldI 2 1 17), (18, t_push (.inl 4) 1 18), (19, t_ldI 1 1 19), (20, t_push (.inl 1) 1 20), (21, t_ii (fun a b => a + b) 21), (22, t_call0 4 w_X5_put 22), (25, t_ldO 0 1 25), (26, t_getR e_rf 5 0 26), (29, t_push (.inl 136) 3 29), (32, t_ldO 0 1 32), (33, t_getR e_rf 5 0 33), (36, t_ialc 2 1 36), (38, t_ii (fun a b => a + b) 38), (39, t_ldI 1 1 39), (40, t_iast 40), (41, t_ldO 0 1 41), (42, t_getR e_rf 5 0 42), (45, t_push (.inl 2) 1 45), (46, t_dup2 46), (47, t_iald 47), (48, t_push (.inl 1) 1 48), (49, t_ii (fun a b => a + b) 49), (50, t_iast 50), (51, t_ldO 0 1 51), (52, t_getR e_rf 5 0 52), (55, t_ialc 2 1 55), (57, t_jret)]
theorem st_X5_doLend : ∀ x ∈ tb_X5_doLend, e_Sd e_rf RX5 i_X5_doLend x.1 x.2 :=
  e_more (s_aload_n (k := 0) (by decide +kernel) rfl) (
  e_more (s_iload_n (k := 1) (by decide +kernel) rfl) (
  e_more (s_iconst (n := 2) (v := 2) (by decide +kernel) (by decide)) (
  e_more (s_iload_n (k := 2) (by decide +kernel) rfl) (
  e_more (s_iconst (n := 1) (v := 1) (by decide +kernel) (by decide)) (
  e_more (s_iadd (by decide +kernel)) (
  e_more (e_call0 (s_callV (c := 5) (idx := 79) k_X5_lay (by decide +kernel) cl_X5_lay (by decide) rfl wd_1428 wd_1430 wd_23 (by decide) (e_sf_rec rfl))) (
  e_more (s_aload_n (k := 0) (by decide +kernel) rfl) (
  e_more (s_iload_n (k := 1) (by decide +kernel) rfl) (
  e_more (s_iconst (n := 4) (v := 4) (by decide +kernel) (by decide)) (
  e_more (s_iconst (n := 0) (v := 0) (by decide +kernel) (by decide)) (
  e_more (e_call0 (s_callV (c := 5) (idx := 79) k_X5_lay (by decide +kernel) cl_X5_lay (by decide) rfl wd_1428 wd_1430 wd_23 (by decide) (e_sf_rec rfl))) (
  e_more (s_aload_n (k := 0) (by decide +kernel) rfl) (
  e_more (s_iload_n (k := 2) (by decide +kernel) rfl) (
  e_more (s_iconst (n := 4) (v := 4) (by decide +kernel) (by decide)) (
  e_more (s_iload_n (k := 1) (by decide +kernel) rfl) (
  e_more (s_iconst (n := 1) (v := 1) (by decide +kernel) (by decide)) (
  e_more (s_iadd (by decide +kernel)) (
  e_more (e_call0 (s_callV (c := 5) (idx := 83) k_X5_put (by decide +kernel) cl_X5_put (by decide) rfl wd_1420 wd_1422 wd_22 (by decide) (e_sf_rec rfl))) (
  e_more (s_aload_n (k := 0) (by decide +kernel) rfl) (
  e_more (s_getR (c := 5) (j := 0) (idx := 7) (by decide +kernel) (by decide) (by decide) rfl wd_1349) (
  e_more (s_sipush (n := 136) (v := 136) (by decide +kernel) (by decide)) (
  e_more (s_aload_n (k := 0) (by decide +kernel) rfl) (
  e_more (s_getR (c := 5) (j := 0) (idx := 7) (by decide +kernel) (by decide) (by decide) rfl wd_1349) (
  e_more (s_ialc (n := 2) (x := 2) (s_iconst (n := 2) (v := 2) (by decide +kernel) (by decide)) (by decide +kernel) (by decide) (by decide)) (
  e_more (s_iadd (by decide +kernel)) (
  e_more (s_iload_n (k := 1) (by decide +kernel) rfl) (
  e_more (s_iast (by decide +kernel)) (
  e_more (s_aload_n (k := 0) (by decide +kernel) rfl) (
  e_more (s_getR (c := 5) (j := 0) (idx := 7) (by decide +kernel) (by decide) (by decide) rfl wd_1349) (
  e_more (s_iconst (n := 2) (v := 2) (by decide +kernel) (by decide)) (
  e_more (s_dup2 (by decide +kernel)) (
  e_more (s_iald (by decide +kernel)) (
  e_more (s_iconst (n := 1) (v := 1) (by decide +kernel) (by decide)) (
  e_more (s_iadd (by decide +kernel)) (
  e_more (s_iast (by decide +kernel)) (
  e_more (s_aload_n (k := 0) (by decide +kernel) rfl) (
  e_more (s_getR (c := 5) (j := 0) (idx := 7) (by decide +kernel) (by decide) (by decide) rfl wd_1349) (
  e_more (s_ialc (n := 2) (x := 2) (s_iconst (n := 2) (v := 2) (by decide +kernel) (by decide)) (by decide +kernel) (by decide) (by decide)) (
  e_more (s_jret (by decide +kernel) rfl) (
  e_no_more))))))))))))))))))))))))))))))))))))))))
def w_X5_doLend : eW := e_sf 13 (e_rn tb_X5_doLend (iL i_X5_doLend) 0 0)
theorem k_X5_doLend : e_OK e_rf i_X5_doLend 0 0 w_X5_doLend := k_sf (k_rn (own := RX5) ⟨by decide +kernel, rfl⟩ st_X5_doLend)
abbrev i_X5_doBack : eI := (yX5_doBack, cX5_doBack, 6, (some .int), 1)
theorem cl_X5_doBack : e_Cl i_X5_doBack 1 := ⟨wd_1479, wd_82, ⟨by decide, by decide⟩, by decide +kernel, by decide⟩
def tb_X5_doBack_0 : eTb := [(0, t_ldO 0 1 0), (1, t_ldI 1 1 1), (2, t_push (.inl 2) 1 2), (3, t_call0 3 w_X5_its 3), (6, t_push (.inl 1) 1 6), (7, t_ii (fun a b => a - b) 7), (8, t_stI 2 1 8), (9, t_ldO 0 1 9), (10, t_getR e_rf 5 0 10), (13, t_ialc 13 2 13), (16, t_ldO 0 1 16), (17, t_ldI 1 1 17), (18, t_push (.inl 4) 1 18), (19, t_call0 3 w_X5_its 19), (22, t_ii (fun a b => a * b) 22), (23, t_stI 3 1 23), (24, t_ldO 0 1 24), (25, t_ldI 2 1 25), (26, t_push (.inl 3) 1 26), (27, t_ldO 0 1 27), (28, t_ldI 2 1 28), (29, t_push (.inl 3) 1 29), (30, t_call0 3 w_X5_of 30), (33, t_ldI 3 1 33), (34, t_ii (fun a b => a + b) 34), (35, t_call0 4 w_X5_put 35), (38, t_ldO 0 1 38), (39, t_ldI 2 1 39), (40, t_push (.inl 4) 1 40), (41, t_push (.inl 0) 1 41), (42, t_call0 4 w_X5_put 42), (45, t_ldO 0 1 45), (46, t_ldI 1 1 46), (47, t_push (.inl 2) 1 47), (48, t_push (.inl 0) 1 48), (49, t_call0 4 w_X5_lay 49), (52, t_ldO 0 1 52), (53, t_ldI 1 1 53), (54, t_push (.inl 4) 1 54), (55, t_push (.inl 0) 1 55)]
theorem st_X5_doBack_0 : ∀ x ∈ tb_X5_doBack_0, e_Sd e_rf RX5 i_X5_doBack x.1 x.2 :=
  e_more (s_aload_n (k := 0) (by decide +kernel) rfl) (
  e_more (s_iload_n (k := 1) (by decide +kernel) rfl) (
  e_more (s_iconst (n := 2) (v := 2) (by decide +kernel) (by decide)) (
  e_more (e_call0 (s_callV (c := 5) (idx := 43) k_X5_its (by decide +kernel) cl_X5_its (by decide) rfl wd_1452 wd_1454 wd_28 (by decide) (e_sf_rec rfl))) (
  e_more (s_iconst (n := 1) (v := 1) (by decide +kernel) (by decide)) (
  e_more (s_isub (by decide +kernel)) (
  e_more (s_istore_n (k := 2) (by decide +kernel) rfl (by decide)) (
  e_more (s_aload_n (k := 0) (by decide +kernel) rfl) (
  e_more (s_getR (c := 5) (j := 0) (idx := 7) (by decide +kernel) (by decide) (by decide) rfl wd_1349) (
  e_more (s_ialc (n := 13) (x := 13) (s_bipush (n := 13) (v := 13) (by decide +kernel) (by decide)) (by decide +kernel) (by decide) (by decide)) (
  e_more (s_aload_n (k := 0) (by decide +kernel) rfl) (
  e_more (s_iload_n (k := 1) (by decide +kernel) rfl) (
  e_more (s_iconst (n := 4) (v := 4) (by decide +kernel) (by decide)) (
  e_more (e_call0 (s_callV (c := 5) (idx := 43) k_X5_its (by decide +kernel) cl_X5_its (by decide) rfl wd_1452 wd_1454 wd_28 (by decide) (e_sf_rec rfl))) (
  e_more (s_imul (by decide +kernel)) (
  e_more (s_istore_n (k := 3) (by decide +kernel) rfl (by decide)) (
  e_more (s_aload_n (k := 0) (by decide +kernel) rfl) (
  e_more (s_iload_n (k := 2) (by decide +kernel) rfl) (
  e_more (s_iconst (n := 3) (v := 3) (by decide +kernel) (by decide)) (
  e_more (s_aload_n (k := 0) (by decide +kernel) rfl) (
  e_more (s_iload_n (k := 2) (by decide +kernel) rfl) (
  e_more (s_iconst (n := 3) (v := 3) (by decide +kernel) (by decide)) (
  e_more (e_call0 (s_callV (c := 5) (idx := 47) k_X5_of (by decide +kernel) cl_X5_of (by decide) rfl wd_1456 wd_1458 wd_29 (by decide) (e_sf_rec rfl))) (
  e_more (s_iload_n (k := 3) (by decide +kernel) rfl) (
  e_more (s_iadd (by decide +kernel)) (
  e_more (e_call0 (s_callV (c := 5) (idx := 83) k_X5_put (by decide +kernel) cl_X5_put (by decide) rfl wd_1420 wd_1422 wd_22 (by decide) (e_sf_rec rfl))) (
  e_more (s_aload_n (k := 0) (by decide +kernel) rfl) (
  e_more (s_iload_n (k := 2) (by decide +kernel) rfl) (
  e_more (s_iconst (n := 4) (v := 4) (by decide +kernel) (by decide)) (
  e_more (s_iconst (n := 0) (v := 0) (by decide +kernel) (by decide)) (
  e_more (e_call0 (s_callV (c := 5) (idx := 83) k_X5_put (by decide +kernel) cl_X5_put (by decide) rfl wd_1420 wd_1422 wd_22 (by decide) (e_sf_rec rfl))) (
  e_more (s_aload_n (k := 0) (by decide +kernel) rfl) (
  e_more (s_iload_n (k := 1) (by decide +kernel) rfl) (
  e_more (s_iconst (n := 2) (v := 2) (by decide +kernel) (by decide)) (
  e_more (s_iconst (n := 0) (v := 0) (by decide +kernel) (by decide)) (
  e_more (e_call0 (s_callV (c := 5) (idx := 79) k_X5_lay (by decide +kernel) cl_X5_lay (by decide) rfl wd_1428 wd_1430 wd_23 (by decide) (e_sf_rec rfl))) (
  e_more (s_aload_n (k := 0) (by decide +kernel) rfl) (
  e_more (s_iload_n (k := 1) (by decide +kernel) rfl) (
  e_more (s_iconst (n := 4) (v := 4) (by decide +kernel) (by decide)) (
  e_more (s_iconst (n := 0) (v := 0) (by decide +kernel) (by decide)) (
  e_no_more))))))))))))))))))))))))))))))))))))))))
def tb_X5_doBack_1 : eTb := [(56, t_call0 4 w_X5_lay 56), (59, t_push (.inl 0) 1 59), (60, t_stI 4 2 60), (62, t_push (.inl 0) 1 62), (63, t_stI 5 2 63), (65, t_ldI 5 2 65), (67, t_ldO 0 1 67), (68, t_getR e_rf 5 0 68), (71, t_ialc 2 1 71), (73, t_ic (fun a b => b ≤ a) 129 73), (76, t_ldO 0 1 76), (77, t_getR e_rf 5 0 77), (80, t_push (.inl 136) 3 80), (83, t_ldI 4 2 83), (85, t_ii (fun a b => a + b) 85), (86, t_ldO 0 1 86), (87, t_getR e_rf 5 0 87), (90, t_push (.inl 136) 3 90), (93, t_ldI 5 2 93), (95, t_ii (fun a b => a + b) 95), (96, t_iald 96), (97, t_iast 97), (98, t_ldI 4 2 98), (100, t_ldO 0 1 100), (101, t_getR e_rf 5 0 101), (104, t_push (.inl 136) 3 104), (107, t_ldI 4 2 107), (109, t_ii (fun a b => a + b) 109), (110, t_iald 110), (111, t_ldI 1 1 111), (112, t_icn (fun a b => a = b) 119 112), (115, t_push (.inl 0) 1 115), (116, t_goto 120), (119, t_push (.inl 1) 1 119), (120, t_ii (fun a b => a + b) 120), (121, t_stI 4 2 121), (123, t_iinc 5 1 123), (126, t_goto 65), (129, t_ldO 0 1 129), (130, t_getR e_rf 5 0 130)]
theorem st_X5_doBack_1 : ∀ x ∈ tb_X5_doBack_1, e_Sd e_rf RX5 i_X5_doBack x.1 x.2 :=
  e_more (e_call0 (s_callV (c := 5) (idx := 79) k_X5_lay (by decide +kernel) cl_X5_lay (by decide) rfl wd_1428 wd_1430 wd_23 (by decide) (e_sf_rec rfl))) (
  e_more (s_iconst (n := 0) (v := 0) (by decide +kernel) (by decide)) (
  e_more (s_istore (by decide +kernel) (by decide)) (
  e_more (s_iconst (n := 0) (v := 0) (by decide +kernel) (by decide)) (
  e_more (s_istore (by decide +kernel) (by decide)) (
  e_more (s_iload (by decide +kernel)) (
  e_more (s_aload_n (k := 0) (by decide +kernel) rfl) (
  e_more (s_getR (c := 5) (j := 0) (idx := 7) (by decide +kernel) (by decide) (by decide) rfl wd_1349) (
  e_more (s_ialc (n := 2) (x := 2) (s_iconst (n := 2) (v := 2) (by decide +kernel) (by decide)) (by decide +kernel) (by decide) (by decide)) (
  e_more (s_ic_ge (off := 56) (by decide +kernel) (by decide)) (
  e_more (s_aload_n (k := 0) (by decide +kernel) rfl) (
  e_more (s_getR (c := 5) (j := 0) (idx := 7) (by decide +kernel) (by decide) (by decide) rfl wd_1349) (
  e_more (s_sipush (n := 136) (v := 136) (by decide +kernel) (by decide)) (
  e_more (s_iload (by decide +kernel)) (
  e_more (s_iadd (by decide +kernel)) (
  e_more (s_aload_n (k := 0) (by decide +kernel) rfl) (
  e_more (s_getR (c := 5) (j := 0) (idx := 7) (by decide +kernel) (by decide) (by decide) rfl wd_1349) (
  e_more (s_sipush (n := 136) (v := 136) (by decide +kernel) (by decide)) (
  e_more (s_iload (by decide +kernel)) (
  e_more (s_iadd (by decide +kernel)) (
  e_more (s_iald (by decide +kernel)) (
  e_more (s_iast (by decide +kernel)) (
  e_more (s_iload (by decide +kernel)) (
  e_more (s_aload_n (k := 0) (by decide +kernel) rfl) (
  e_more (s_getR (c := 5) (j := 0) (idx := 7) (by decide +kernel) (by decide) (by decide) rfl wd_1349) (
  e_more (s_sipush (n := 136) (v := 136) (by decide +kernel) (by decide)) (
  e_more (s_iload (by decide +kernel)) (
  e_more (s_iadd (by decide +kernel)) (
  e_more (s_iald (by decide +kernel)) (
  e_more (s_iload_n (k := 1) (by decide +kernel) rfl) (
  e_more (s_ic_ne (off := 7) (by decide +kernel) (by decide)) (
  e_more (s_iconst (n := 0) (v := 0) (by decide +kernel) (by decide)) (
  e_more (s_goto (off := 4) (by decide +kernel) (by decide)) (
  e_more (s_iconst (n := 1) (v := 1) (by decide +kernel) (by decide)) (
  e_more (s_iadd (by decide +kernel)) (
  e_more (s_istore (by decide +kernel) (by decide)) (
  e_more (s_iinc (z := 1) (n := 1) (by decide +kernel) (by decide) (by decide)) (
  e_more (s_goto (off := (-61)) (by decide +kernel) (by decide)) (
  e_more (s_aload_n (k := 0) (by decide +kernel) rfl) (
  e_more (s_getR (c := 5) (j := 0) (idx := 7) (by decide +kernel) (by decide) (by decide) rfl wd_1349) (
  e_no_more))))))))))))))))))))))))))))))))))))))))
def tb_X5_doBack_2 : eTb := [(133, t_push (.inl 2) 1 133), (134, t_ldI 4 2 134), (136, t_iast 136), (137, t_ldI 3 1 137), (138, t_jret)]
theorem st_X5_doBack_2 : ∀ x ∈ tb_X5_doBack_2, e_Sd e_rf RX5 i_X5_doBack x.1 x.2 :=
  e_more (s_iconst (n := 2) (v := 2) (by decide +kernel) (by decide)) (
  e_more (s_iload (by decide +kernel)) (
  e_more (s_iast (by decide +kernel)) (
  e_more (s_iload_n (k := 3) (by decide +kernel) rfl) (
  e_more (s_jret (by decide +kernel) rfl) (
  e_no_more)))))
def tb_X5_doBack : eTb := tb_X5_doBack_0 ++ tb_X5_doBack_1 ++ tb_X5_doBack_2
theorem st_X5_doBack : ∀ x ∈ tb_X5_doBack, e_Sd e_rf RX5 i_X5_doBack x.1 x.2 := e_app (e_app (st_X5_doBack_0) st_X5_doBack_1) st_X5_doBack_2
def w_X5_doBack : eW := e_sf 13 (e_rn tb_X5_doBack (iL i_X5_doBack) 0 0)
theorem k_X5_doBack : e_OK e_rf i_X5_doBack 0 0 w_X5_doBack := k_sf (k_rn (own := RX5) ⟨by decide +kernel, rfl⟩ st_X5_doBack)
