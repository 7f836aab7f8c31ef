/-! the reference, piece 2: tables and readings, by program. Own work. -/
abbrev i_X5_doMend : eI := (yX5_doMend, cX5_doMend, 3, (some .int), 1)
theorem cl_X5_doMend : e_Cl i_X5_doMend 1 := ⟨wd_1499, wd_82, ⟨by decide, by decide⟩, by decide +kernel, by decide⟩
def tb_X5_doMend : eTb := [(0, t_push (.inl 15) 2 0), (2, t_ldO 0 1 2), (3, t_ldI 1 1 3), (4, t_push (.inl 1) 1 4), (5, t_call0 3 w_X5_its 5), (8, t_ii (fun a b => a * b) 8), (9, t_stI 2 1 9), (10, t_ldO 0 1 10), (11, t_ldI 1 1 11), (12, t_push (.inl 1) 1 12), (13, t_push (.inl 0) 1 13), (14, t_call0 4 w_X5_lay 14), (17, t_ldO 0 1 17), (18, t_getR e_rf 5 0 18), (21, t_push (.inl 12) 2 21), (23, t_dup2 23), (24, t_iald 24), (25, t_ldI 2 1 25), (26, t_ii (fun a b => a + b) 26), (27, t_iast 27), (28, t_ldO 0 1 28), (29, t_getR e_rf 5 0 29), (32, t_push (.inl 8) 2 32), (34, t_dup2 34), (35, t_iald 35), (36, t_ldI 2 1 36), (37, t_ii (fun a b => a - b) 37), (38, t_iast 38), (39, t_ldI 2 1 39), (40, t_jret)]
theorem st_X5_doMend : ∀ x ∈ tb_X5_doMend, e_Sd e_rf RX5 i_X5_doMend x.1 x.2 :=
  e_more (s_bipush (n := 15) (v := 15) (by decide +kernel) (by decide)) (
  e_more (s_aload_n (k := 0) (by decide +kernel) rfl) (
  e_more (s_iload_n (k := 1) (by decide +kernel) rfl) (
  e_more (s_iconst (n := 1) (v := 1) (by decide +kernel) (by decide)) (
  e_more (e_call0 (s_callV (c := 5) (idx := 43) k_X5_its (by decide +kernel) cl_X5_its (by decide) rfl wd_1452 wd_1454 wd_28 (by decide) (e_sf_rec rfl))) (
  e_more (s_imul (by decide +kernel)) (
  e_more (s_istore_n (k := 2) (by decide +kernel) rfl (by decide)) (
  e_more (s_aload_n (k := 0) (by decide +kernel) rfl) (
  e_more (s_iload_n (k := 1) (by decide +kernel) rfl) (
  e_more (s_iconst (n := 1) (v := 1) (by decide +kernel) (by decide)) (
  e_more (s_iconst (n := 0) (v := 0) (by decide +kernel) (by decide)) (
  e_more (e_call0 (s_callV (c := 5) (idx := 79) k_X5_lay (by decide +kernel) cl_X5_lay (by decide) rfl wd_1428 wd_1430 wd_23 (by decide) (e_sf_rec rfl))) (
  e_more (s_aload_n (k := 0) (by decide +kernel) rfl) (
  e_more (s_getR (c := 5) (j := 0) (idx := 7) (by decide +kernel) (by decide) (by decide) rfl wd_1349) (
  e_more (s_bipush (n := 12) (v := 12) (by decide +kernel) (by decide)) (
  e_more (s_dup2 (by decide +kernel)) (
  e_more (s_iald (by decide +kernel)) (
  e_more (s_iload_n (k := 2) (by decide +kernel) rfl) (
  e_more (s_iadd (by decide +kernel)) (
  e_more (s_iast (by decide +kernel)) (
  e_more (s_aload_n (k := 0) (by decide +kernel) rfl) (
  e_more (s_getR (c := 5) (j := 0) (idx := 7) (by decide +kernel) (by decide) (by decide) rfl wd_1349) (
  e_more (s_bipush (n := 8) (v := 8) (by decide +kernel) (by decide)) (
  e_more (s_dup2 (by decide +kernel)) (
  e_more (s_iald (by decide +kernel)) (
  e_more (s_iload_n (k := 2) (by decide +kernel) rfl) (
  e_more (s_isub (by decide +kernel)) (
  e_more (s_iast (by decide +kernel)) (
  e_more (s_iload_n (k := 2) (by decide +kernel) rfl) (
  e_more (s_jret (by decide +kernel) rfl) (
  e_no_more))))))))))))))))))))))))))))))
def w_X5_doMend : eW := e_sf 13 (e_rn tb_X5_doMend (iL i_X5_doMend) 0 0)
theorem k_X5_doMend : e_OK e_rf i_X5_doMend 0 0 w_X5_doMend := k_sf (k_rn (own := RX5) ⟨by decide +kernel, rfl⟩ st_X5_doMend)
abbrev i_X5_doPass : eI := (yX5_doPass, cX5_doPass, 4, (some .int), 1)
theorem cl_X5_doPass : e_Cl i_X5_doPass 1 := ⟨wd_1515, wd_82, ⟨by decide, by decide⟩, by decide +kernel, by decide⟩
def tb_X5_doPass_0 : eTb := [(0, t_ldO 0 1 0), (1, t_getR e_rf 5 0 1), (4, t_push (.inl 3) 1 4), (5, t_dup2 5), (6, t_iald 6), (7, t_ldI 1 1 7), (8, t_ii (fun a b => a + b) 8), (9, t_iast 9), (10, t_ldO 0 1 10), (11, t_getR e_rf 5 0 11), (14, t_push (.inl 4) 1 14), (15, t_push (.inl 0) 1 15), (16, t_iast 16), (17, t_push (.inl 0) 1 17), (18, t_stI 2 1 18), (19, t_ldI 2 1 19), (20, t_ldO 0 1 20), (21, t_getR e_rf 5 0 21), (24, t_ialc 0 1 24), (26, t_ic (fun a b => b ≤ a) 79 26), (29, t_ldO 0 1 29), (30, t_ldI 2 1 30), (31, t_push (.inl 1) 1 31), (32, t_call0 3 w_X5_of 32), (35, t_push (.inl 4) 1 35), (36, t_ldI 1 1 36), (37, t_ii (fun a b => a * b) 37), (38, t_ii (fun a b => a + b) 38), (39, t_stI 3 1 39), (40, t_ldO 0 1 40), (41, t_ldI 2 1 41), (42, t_push (.inl 1) 1 42), (43, t_ldI 3 1 43), (44, t_ldO 0 1 44), (45, t_ldI 2 1 45), (46, t_push (.inl 0) 1 46), (47, t_call0 3 w_X5_of 47), (50, t_ic (fun a b => a ≤ b) 62 50), (53, t_ldO 0 1 53), (54, t_ldI 2 1 54)]
theorem st_X5_doPass_0 : ∀ x ∈ tb_X5_doPass_0, e_Sd e_rf RX5 i_X5_doPass x.1 x.2 :=
  e_more (s_aload_n (k := 0) (by decide +kernel) rfl) (
  e_more (s_getR (c := 5) (j := 0) (idx := 7) (by decide +kernel) (by decide) (by decide) rfl wd_1349) (
  e_more (s_iconst (n := 3) (v := 3) (by decide +kernel) (by decide)) (
  e_more (s_dup2 (by decide +kernel)) (
  e_more (s_iald (by decide +kernel)) (
  e_more (s_iload_n (k := 1) (by decide +kernel) rfl) (
  e_more (s_iadd (by decide +kernel)) (
  e_more (s_iast (by decide +kernel)) (
  e_more (s_aload_n (k := 0) (by decide +kernel) rfl) (
  e_more (s_getR (c := 5) (j := 0) (idx := 7) (by decide +kernel) (by decide) (by decide) rfl wd_1349) (
  e_more (s_iconst (n := 4) (v := 4) (by decide +kernel) (by decide)) (
  e_more (s_iconst (n := 0) (v := 0) (by decide +kernel) (by decide)) (
  e_more (s_iast (by decide +kernel)) (
  e_more (s_iconst (n := 0) (v := 0) (by decide +kernel) (by decide)) (
  e_more (s_istore_n (k := 2) (by decide +kernel) rfl (by decide)) (
  e_more (s_iload_n (k := 2) (by decide +kernel) rfl) (
  e_more (s_aload_n (k := 0) (by decide +kernel) rfl) (
  e_more (s_getR (c := 5) (j := 0) (idx := 7) (by decide +kernel) (by decide) (by decide) rfl wd_1349) (
  e_more (s_ialc (n := 0) (x := 0) (s_iconst (n := 0) (v := 0) (by decide +kernel) (by decide)) (by decide +kernel) (by decide) (by decide)) (
  e_more (s_ic_ge (off := 53) (by decide +kernel) (by decide)) (
  e_more (s_aload_n (k := 0) (by decide +kernel) rfl) (
  e_more (s_iload_n (k := 2) (by decide +kernel) rfl) (
  e_more (s_iconst (n := 1) (v := 1) (by decide +kernel) (by decide)) (
  e_more (e_call0 (s_callV (c := 5) (idx := 47) k_X5_of (by decide +kernel) cl_X5_of (by decide) rfl wd_1456 wd_1458 wd_29 (by decide) (e_sf_rec rfl))) (
  e_more (s_iconst (n := 4) (v := 4) (by decide +kernel) (by decide)) (
  e_more (s_iload_n (k := 1) (by decide +kernel) rfl) (
  e_more (s_imul (by decide +kernel)) (
  e_more (s_iadd (by decide +kernel)) (
  e_more (s_istore_n (k := 3) (by decide +kernel) rfl (by decide)) (
  e_more (s_aload_n (k := 0) (by decide +kernel) rfl) (
  e_more (s_iload_n (k := 2) (by decide +kernel) rfl) (
  e_more (s_iconst (n := 1) (v := 1) (by decide +kernel) (by decide)) (
  e_more (s_iload_n (k := 3) (by decide +kernel) rfl) (
  e_more (s_aload_n (k := 0) (by decide +kernel) rfl) (
  e_more (s_iload_n (k := 2) (by decide +kernel) rfl) (
  e_more (s_iconst (n := 0) (v := 0) (by decide +kernel) (by decide)) (
  e_more (e_call0 (s_callV (c := 5) (idx := 47) k_X5_of (by decide +kernel) cl_X5_of (by decide) rfl wd_1456 wd_1458 wd_29 (by decide) (e_sf_rec rfl))) (
  e_more (s_ic_le (off := 12) (by decide +kernel) (by decide)) (
  e_more (s_aload_n (k := 0) (by decide +kernel) rfl) (
  e_more (s_iload_n (k := 2) (by decide +kernel) rfl) (
  e_no_more))))))))))))))))))))))))))))))))))))))))
def tb_X5_doPass_1 : eTb := [(55, t_push (.inl 0) 1 55), (56, t_call0 3 w_X5_of 56), (59, t_goto 63), (62, t_ldI 3 1 62), (63, t_call0 4 w_X5_put 63), (66, t_ldO 0 1 66), (67, t_ldI 2 1 67), (68, t_push (.inl 5) 1 68), (69, t_push (.inl 0) 1 69), (70, t_call0 4 w_X5_put 70), (73, t_iinc 2 1 73), (76, t_goto 19), (79, t_ldO 0 1 79), (80, t_getR e_rf 5 0 80), (83, t_ialc 3 1 83), (85, t_jret)]
theorem st_X5_doPass_1 : ∀ x ∈ tb_X5_doPass_1, e_Sd e_rf RX5 i_X5_doPass x.1 x.2 :=
  e_more (s_iconst (n := 0) (v := 0) (by decide +kernel) (by decide)) (
  e_more (e_call0 (s_callV (c := 5) (idx := 47) k_X5_of (by decide +kernel) cl_X5_of (by decide) rfl wd_1456 wd_1458 wd_29 (by decide) (e_sf_rec rfl))) (
  e_more (s_goto (off := 4) (by decide +kernel) (by decide)) (
  e_more (s_iload_n (k := 3) (by decide +kernel) rfl) (
  e_more (e_call0 (s_callV (c := 5) (idx := 83) k_X5_put (by decide +kernel) cl_X5_put (by decide) rfl wd_1420 wd_1422 wd_22 (by decide) (e_sf_rec rfl))) (
  e_more (s_aload_n (k := 0) (by decide +kernel) rfl) (
  e_more (s_iload_n (k := 2) (by decide +kernel) rfl) (
  e_more (s_iconst (n := 5) (v := 5) (by decide +kernel) (by decide)) (
  e_more (s_iconst (n := 0) (v := 0) (by decide +kernel) (by decide)) (
  e_more (e_call0 (s_callV (c := 5) (idx := 83) k_X5_put (by decide +kernel) cl_X5_put (by decide) rfl wd_1420 wd_1422 wd_22 (by decide) (e_sf_rec rfl))) (
  e_more (s_iinc (z := 1) (n := 1) (by decide +kernel) (by decide) (by decide)) (
  e_more (s_goto (off := (-57)) (by decide +kernel) (by decide)) (
  e_more (s_aload_n (k := 0) (by decide +kernel) rfl) (
  e_more (s_getR (c := 5) (j := 0) (idx := 7) (by decide +kernel) (by decide) (by decide) rfl wd_1349) (
  e_more (s_ialc (n := 3) (x := 3) (s_iconst (n := 3) (v := 3) (by decide +kernel) (by decide)) (by decide +kernel) (by decide) (by decide)) (
  e_more (s_jret (by decide +kernel) rfl) (
  e_no_more))))))))))))))))
def tb_X5_doPass : eTb := tb_X5_doPass_0 ++ tb_X5_doPass_1
theorem st_X5_doPass : ∀ x ∈ tb_X5_doPass, e_Sd e_rf RX5 i_X5_doPass x.1 x.2 := e_app (st_X5_doPass_0) st_X5_doPass_1
def w_X5_doPass : eW := e_sf 13 (e_rn tb_X5_doPass (iL i_X5_doPass) 0 0)
theorem k_X5_doPass : e_OK e_rf i_X5_doPass 0 0 w_X5_doPass := k_sf (k_rn (own := RX5) ⟨by decide +kernel, rfl⟩ st_X5_doPass)
abbrev i_X5_doTeach : eI := (yX5_doTeach, cX5_doTeach, 3, (some .int), 2)
theorem cl_X5_doTeach : e_Cl i_X5_doTeach 2 := ⟨wd_1545, wd_82, ⟨by decide, by decide⟩, by decide +kernel, by decide⟩
def tb_X5_doTeach_0 : eTb := [(0, t_ldO 0 1 0), (1, t_ldI 1 1 1), (2, t_push (.inl 2) 1 2), (3, t_ldO 0 1 3), (4, t_ldI 1 1 4), (5, t_push (.inl 2) 1 5), (6, t_call0 3 w_X5_of 6), (9, t_push (.inl 1) 1 9), (10, t_ii (fun a b => a + b) 10), (11, t_call0 4 w_X5_put 11), (14, t_ldO 0 1 14), (15, t_ldI 1 1 15), (16, t_push (.inl 1) 1 16), (17, t_ldO 0 1 17), (18, t_ldI 1 1 18), (19, t_push (.inl 1) 1 19), (20, t_call0 3 w_X5_of 20), (23, t_push (.inl 3) 1 23), (24, t_ii (fun a b => a - b) 24), (25, t_ldO 0 1 25), (26, t_ldI 1 1 26), (27, t_call0 2 w_X5_kindOf 27), (30, t_ii (fun a b => a - b) 30), (31, t_call0 4 w_X5_put 31), (34, t_ldO 0 1 34), (35, t_ldI 1 1 35), (36, t_push (.inl 5) 1 36), (37, t_push (.inl 1) 1 37), (38, t_call0 4 w_X5_put 38), (41, t_ldO 0 1 41), (42, t_getR e_rf 5 0 42), (45, t_push (.inl 5) 1 45), (46, t_dup2 46), (47, t_iald 47), (48, t_push (.inl 1) 1 48), (49, t_ii (fun a b => a + b) 49), (50, t_iast 50), (51, t_ldO 0 1 51), (52, t_getR e_rf 5 0 52), (55, t_push (.inl 11) 2 55)]
theorem st_X5_doTeach_0 : ∀ x ∈ tb_X5_doTeach_0, e_Sd e_rf RX5 i_X5_doTeach x.1 x.2 :=
  e_more (s_aload_n (k := 0) (by decide +kernel) rfl) (
  e_more (s_iload_n (k := 1) (by decide +kernel) rfl) (
  e_more (s_iconst (n := 2) (v := 2) (by decide +kernel) (by decide)) (
  e_more (s_aload_n (k := 0) (by decide +kernel) rfl) (
  e_more (s_iload_n (k := 1) (by decide +kernel) rfl) (
  e_more (s_iconst (n := 2) (v := 2) (by decide +kernel) (by decide)) (
  e_more (e_call0 (s_callV (c := 5) (idx := 47) k_X5_of (by decide +kernel) cl_X5_of (by decide) rfl wd_1456 wd_1458 wd_29 (by decide) (e_sf_rec rfl))) (
  e_more (s_iconst (n := 1) (v := 1) (by decide +kernel) (by decide)) (
  e_more (s_iadd (by decide +kernel)) (
  e_more (e_call0 (s_callV (c := 5) (idx := 83) k_X5_put (by decide +kernel) cl_X5_put (by decide) rfl wd_1420 wd_1422 wd_22 (by decide) (e_sf_rec rfl))) (
  e_more (s_aload_n (k := 0) (by decide +kernel) rfl) (
  e_more (s_iload_n (k := 1) (by decide +kernel) rfl) (
  e_more (s_iconst (n := 1) (v := 1) (by decide +kernel) (by decide)) (
  e_more (s_aload_n (k := 0) (by decide +kernel) rfl) (
  e_more (s_iload_n (k := 1) (by decide +kernel) rfl) (
  e_more (s_iconst (n := 1) (v := 1) (by decide +kernel) (by decide)) (
  e_more (e_call0 (s_callV (c := 5) (idx := 47) k_X5_of (by decide +kernel) cl_X5_of (by decide) rfl wd_1456 wd_1458 wd_29 (by decide) (e_sf_rec rfl))) (
  e_more (s_iconst (n := 3) (v := 3) (by decide +kernel) (by decide)) (
  e_more (s_isub (by decide +kernel)) (
  e_more (s_aload_n (k := 0) (by decide +kernel) rfl) (
  e_more (s_iload_n (k := 1) (by decide +kernel) rfl) (
  e_more (e_call0 (s_callV (c := 5) (idx := 61) k_X5_kindOf (by decide +kernel) cl_X5_kindOf (by decide) rfl wd_1538 wd_1540 wd_41 (by decide) (e_sf_rec rfl))) (
  e_more (s_isub (by decide +kernel)) (
  e_more (e_call0 (s_callV (c := 5) (idx := 83) k_X5_put (by decide +kernel) cl_X5_put (by decide) rfl wd_1420 wd_1422 wd_22 (by decide) (e_sf_rec rfl))) (
  e_more (s_aload_n (k := 0) (by decide +kernel) rfl) (
  e_more (s_iload_n (k := 1) (by decide +kernel) rfl) (
  e_more (s_iconst (n := 5) (v := 5) (by decide +kernel) (by decide)) (
  e_more (s_iconst (n := 1) (v := 1) (by decide +kernel) (by decide)) (
  e_more (e_call0 (s_callV (c := 5) (idx := 83) k_X5_put (by decide +kernel) cl_X5_put (by decide) rfl wd_1420 wd_1422 wd_22 (by decide) (e_sf_rec rfl))) (
  e_more (s_aload_n (k := 0) (by decide +kernel) rfl) (
  e_more (s_getR (c := 5) (j := 0) (idx := 7) (by decide +kernel) (by decide) (by decide) rfl wd_1349) (
  e_more (s_iconst (n := 5) (v := 5) (by decide +kernel) (by decide)) (
  e_more (s_dup2 (by decide +kernel)) (
  e_more (s_iald (by decide +kernel)) (
  e_more (s_iconst (n := 1) (v := 1) (by decide +kernel) (by decide)) (
  e_more (s_iadd (by decide +kernel)) (
  e_more (s_iast (by decide +kernel)) (
  e_more (s_aload_n (k := 0) (by decide +kernel) rfl) (
  e_more (s_getR (c := 5) (j := 0) (idx := 7) (by decide +kernel) (by decide) (by decide) rfl wd_1349) (
  e_more (s_bipush (n := 11) (v := 11) (by decide +kernel) (by decide)) (
  e_no_more))))))))))))))))))))))))))))))))))))))))
def tb_X5_doTeach_1 : eTb := [(57, t_dup2 57), (58, t_iald 58), (59, t_ldI 2 1 59), (60, t_call0 1 w_X5_feeOf 60), (63, t_ii (fun a b => a + b) 63), (64, t_iast 64), (65, t_ldO 0 1 65), (66, t_getR e_rf 5 0 66), (69, t_push (.inl 8) 2 69), (71, t_dup2 71), (72, t_iald 72), (73, t_ldI 2 1 73), (74, t_call0 1 w_X5_feeOf 74), (77, t_ii (fun a b => a - b) 77), (78, t_iast 78), (79, t_ldO 0 1 79), (80, t_ldI 1 1 80), (81, t_push (.inl 2) 1 81), (82, t_call0 3 w_X5_of 82), (85, t_jret)]
theorem st_X5_doTeach_1 : ∀ x ∈ tb_X5_doTeach_1, e_Sd e_rf RX5 i_X5_doTeach x.1 x.2 :=
  e_more (s_dup2 (by decide +kernel)) (
  e_more (s_iald (by decide +kernel)) (
  e_more (s_iload_n (k := 2) (by decide +kernel) rfl) (
  e_more (e_call0 (s_callS (idx := 86) k_X5_feeOf (by decide +kernel) cl_X5_feeOf wd_1546 wd_1547 (by decide))) (
  e_more (s_iadd (by decide +kernel)) (
  e_more (s_iast (by decide +kernel)) (
  e_more (s_aload_n (k := 0) (by decide +kernel) rfl) (
  e_more (s_getR (c := 5) (j := 0) (idx := 7) (by decide +kernel) (by decide) (by decide) rfl wd_1349) (
  e_more (s_bipush (n := 8) (v := 8) (by decide +kernel) (by decide)) (
  e_more (s_dup2 (by decide +kernel)) (
  e_more (s_iald (by decide +kernel)) (
  e_more (s_iload_n (k := 2) (by decide +kernel) rfl) (
  e_more (e_call0 (s_callS (idx := 86) k_X5_feeOf (by decide +kernel) cl_X5_feeOf wd_1546 wd_1547 (by decide))) (
  e_more (s_isub (by decide +kernel)) (
  e_more (s_iast (by decide +kernel)) (
  e_more (s_aload_n (k := 0) (by decide +kernel) rfl) (
  e_more (s_iload_n (k := 1) (by decide +kernel) rfl) (
  e_more (s_iconst (n := 2) (v := 2) (by decide +kernel) (by decide)) (
  e_more (e_call0 (s_callV (c := 5) (idx := 47) k_X5_of (by decide +kernel) cl_X5_of (by decide) rfl wd_1456 wd_1458 wd_29 (by decide) (e_sf_rec rfl))) (
  e_more (s_jret (by decide +kernel) rfl) (
  e_no_more))))))))))))))))))))
def tb_X5_doTeach : eTb := tb_X5_doTeach_0 ++ tb_X5_doTeach_1
theorem st_X5_doTeach : ∀ x ∈ tb_X5_doTeach, e_Sd e_rf RX5 i_X5_doTeach x.1 x.2 := e_app (st_X5_doTeach_0) st_X5_doTeach_1
def w_X5_doTeach : eW := e_sf 13 (e_rn tb_X5_doTeach (iL i_X5_doTeach) 0 0)
theorem k_X5_doTeach : e_OK e_rf i_X5_doTeach 0 0 w_X5_doTeach := k_sf (k_rn (own := RX5) ⟨by decide +kernel, rfl⟩ st_X5_doTeach)
abbrev i_X5_doMarch : eI := (yX5_doMarch, cX5_doMarch, 7, (some .int), 6)
theorem cl_X5_doMarch : e_Cl i_X5_doMarch 1 := ⟨wd_1567, wd_82, ⟨by decide, by decide⟩, by decide +kernel, by decide⟩
def tb_X5_doMarch_0 : eTb := [(0, t_ldO 0 1 0), (1, t_ldI 1 1 1), (2, t_call0 2 w_X5_penceOf 2), (5, t_stI 2 1 5), (6, t_push (.inl 0) 1 6), (7, t_stI 3 1 7), (8, t_push (.inl 0) 1 8), (9, t_stI 4 2 9), (11, t_ldI 4 2 11), (13, t_push (.inl 4) 1 13), (14, t_ic (fun a b => b ≤ a) 132 14), (17, t_ldO 0 1 17), (18, t_getR e_rf 5 9 18), (21, t_ldI 4 2 21), (23, t_iald 23), (24, t_stI 5 2 24), (26, t_ldI 5 2 26), (28, t_push (.inl (-1)) 1 28), (29, t_icn (fun a b => a = b) 38 29), (32, t_iinc 3 1 32), (35, t_goto 126), (38, t_ldO 0 1 38), (39, t_ldI 5 2 39), (41, t_push (.inl 4) 1 41), (42, t_call0 3 w_X5_of 42), (45, t_push (.inl 1) 1 45), (46, t_ii (fun a b => a - b) 46), (47, t_stI 6 2 47), (49, t_ldO 0 1 49), (50, t_ldI 5 2 50), (52, t_push (.inl 1) 1 52), (53, t_ldO 0 1 53), (54, t_ldI 5 2 54), (56, t_push (.inl 1) 1 56), (57, t_call0 3 w_X5_of 57), (60, t_ldI 4 2 60), (62, t_call0 1 w_X5_breathFor 62), (65, t_ii (fun a b => a - b) 65), (66, t_call0 4 w_X5_put 66), (69, t_ldO 0 1 69)]
theorem st_X5_doMarch_0 : ∀ x ∈ tb_X5_doMarch_0, e_Sd e_rf RX5 i_X5_doMarch x.1 x.2 :=
  e_more (s_aload_n (k := 0) (by decide +kernel) rfl) (
  e_more (s_iload_n (k := 1) (by decide +kernel) rfl) (
  e_more (e_call0 (s_callV (c := 5) (idx := 89) k_X5_penceOf (by decide +kernel) cl_X5_penceOf (by decide) rfl wd_1568 wd_1570 wd_46 (by decide) (e_sf_rec rfl))) (
  e_more (s_istore_n (k := 2) (by decide +kernel) rfl (by decide)) (
  e_more (s_iconst (n := 0) (v := 0) (by decide +kernel) (by decide)) (
  e_more (s_istore_n (k := 3) (by decide +kernel) rfl (by decide)) (
  e_more (s_iconst (n := 0) (v := 0) (by decide +kernel) (by decide)) (
  e_more (s_istore (by decide +kernel) (by decide)) (
  e_more (s_iload (by decide +kernel)) (
  e_more (s_iconst (n := 4) (v := 4) (by decide +kernel) (by decide)) (
  e_more (s_ic_ge (off := 118) (by decide +kernel) (by decide)) (
  e_more (s_aload_n (k := 0) (by decide +kernel) rfl) (
  e_more (s_getR (c := 5) (j := 9) (idx := 25) (by decide +kernel) (by decide) (by decide) rfl wd_1358) (
  e_more (s_iload (by decide +kernel)) (
  e_more (s_iald (by decide +kernel)) (
  e_more (s_istore (by decide +kernel) (by decide)) (
  e_more (s_iload (by decide +kernel)) (
  e_more (s_iconst (n := (-1)) (v := (-1)) (by decide +kernel) (by decide)) (
  e_more (s_ic_ne (off := 9) (by decide +kernel) (by decide)) (
  e_more (s_iinc (z := 1) (n := 1) (by decide +kernel) (by decide) (by decide)) (
  e_more (s_goto (off := 91) (by decide +kernel) (by decide)) (
  e_more (s_aload_n (k := 0) (by decide +kernel) rfl) (
  e_more (s_iload (by decide +kernel)) (
  e_more (s_iconst (n := 4) (v := 4) (by decide +kernel) (by decide)) (
  e_more (e_call0 (s_callV (c := 5) (idx := 47) k_X5_of (by decide +kernel) cl_X5_of (by decide) rfl wd_1456 wd_1458 wd_29 (by decide) (e_sf_rec rfl))) (
  e_more (s_iconst (n := 1) (v := 1) (by decide +kernel) (by decide)) (
  e_more (s_isub (by decide +kernel)) (
  e_more (s_istore (by decide +kernel) (by decide)) (
  e_more (s_aload_n (k := 0) (by decide +kernel) rfl) (
  e_more (s_iload (by decide +kernel)) (
  e_more (s_iconst (n := 1) (v := 1) (by decide +kernel) (by decide)) (
  e_more (s_aload_n (k := 0) (by decide +kernel) rfl) (
  e_more (s_iload (by decide +kernel)) (
  e_more (s_iconst (n := 1) (v := 1) (by decide +kernel) (by decide)) (
  e_more (e_call0 (s_callV (c := 5) (idx := 47) k_X5_of (by decide +kernel) cl_X5_of (by decide) rfl wd_1456 wd_1458 wd_29 (by decide) (e_sf_rec rfl))) (
  e_more (s_iload (by decide +kernel)) (
  e_more (e_call0 (s_callS (idx := 67) k_X5_breathFor (by decide +kernel) cl_X5_breathFor wd_1583 wd_1584 (by decide))) (
  e_more (s_isub (by decide +kernel)) (
  e_more (e_call0 (s_callV (c := 5) (idx := 83) k_X5_put (by decide +kernel) cl_X5_put (by decide) rfl wd_1420 wd_1422 wd_22 (by decide) (e_sf_rec rfl))) (
  e_more (s_aload_n (k := 0) (by decide +kernel) rfl) (
  e_no_more))))))))))))))))))))))))))))))))))))))))
def tb_X5_doMarch_1 : eTb := [(70, t_ldI 5 2 70), (72, t_push (.inl 6) 2 72), (74, t_ldO 0 1 74), (75, t_ldI 5 2 75), (77, t_push (.inl 6) 2 77), (79, t_call0 3 w_X5_of 79), (82, t_push (.inl 1) 1 82), (83, t_ii (fun a b => a + b) 83), (84, t_call0 4 w_X5_put 84), (87, t_ldO 0 1 87), (88, t_ldI 6 2 88), (90, t_push (.inl 3) 1 90), (91, t_ldO 0 1 91), (92, t_ldI 6 2 92), (94, t_push (.inl 3) 1 94), (95, t_call0 3 w_X5_its 95), (98, t_push (.inl 1) 1 98), (99, t_ii (fun a b => a + b) 99), (100, t_call0 4 w_X5_lay 100), (103, t_ldO 0 1 103), (104, t_ldI 6 2 104), (106, t_ldO 0 1 106), (107, t_ldI 6 2 107), (109, t_push (.inl 3) 1 109), (110, t_call0 3 w_X5_its 110), (113, t_push (.inl 3) 1 113), (114, t_idv (fun a b => a - a / b * b) 114), (115, t_ifn (fun a => a = 0) 122 115), (118, t_push (.inl 1) 1 118), (119, t_goto 123), (122, t_push (.inl 0) 1 122), (123, t_call0 3 w_X5_dents 123), (126, t_iinc 4 1 126), (129, t_goto 11), (132, t_ldO 0 1 132), (133, t_getR e_rf 5 0 133), (136, t_push (.inl 4) 1 136), (137, t_push (.inl 1) 1 137), (138, t_iast 138), (139, t_ldO 0 1 139)]
theorem st_X5_doMarch_1 : ∀ x ∈ tb_X5_doMarch_1, e_Sd e_rf RX5 i_X5_doMarch x.1 x.2 :=
  e_more (s_iload (by decide +kernel)) (
  e_more (s_bipush (n := 6) (v := 6) (by decide +kernel) (by decide)) (
  e_more (s_aload_n (k := 0) (by decide +kernel) rfl) (
  e_more (s_iload (by decide +kernel)) (
  e_more (s_bipush (n := 6) (v := 6) (by decide +kernel) (by decide)) (
  e_more (e_call0 (s_callV (c := 5) (idx := 47) k_X5_of (by decide +kernel) cl_X5_of (by decide) rfl wd_1456 wd_1458 wd_29 (by decide) (e_sf_rec rfl))) (
  e_more (s_iconst (n := 1) (v := 1) (by decide +kernel) (by decide)) (
  e_more (s_iadd (by decide +kernel)) (
  e_more (e_call0 (s_callV (c := 5) (idx := 83) k_X5_put (by decide +kernel) cl_X5_put (by decide) rfl wd_1420 wd_1422 wd_22 (by decide) (e_sf_rec rfl))) (
  e_more (s_aload_n (k := 0) (by decide +kernel) rfl) (
  e_more (s_iload (by decide +kernel)) (
  e_more (s_iconst (n := 3) (v := 3) (by decide +kernel) (by decide)) (
  e_more (s_aload_n (k := 0) (by decide +kernel) rfl) (
  e_more (s_iload (by decide +kernel)) (
  e_more (s_iconst (n := 3) (v := 3) (by decide +kernel) (by decide)) (
  e_more (e_call0 (s_callV (c := 5) (idx := 43) k_X5_its (by decide +kernel) cl_X5_its (by decide) rfl wd_1452 wd_1454 wd_28 (by decide) (e_sf_rec rfl))) (
  e_more (s_iconst (n := 1) (v := 1) (by decide +kernel) (by decide)) (
  e_more (s_iadd (by decide +kernel)) (
  e_more (e_call0 (s_callV (c := 5) (idx := 79) k_X5_lay (by decide +kernel) cl_X5_lay (by decide) rfl wd_1428 wd_1430 wd_23 (by decide) (e_sf_rec rfl))) (
  e_more (s_aload_n (k := 0) (by decide +kernel) rfl) (
  e_more (s_iload (by decide +kernel)) (
  e_more (s_aload_n (k := 0) (by decide +kernel) rfl) (
  e_more (s_iload (by decide +kernel)) (
  e_more (s_iconst (n := 3) (v := 3) (by decide +kernel) (by decide)) (
  e_more (e_call0 (s_callV (c := 5) (idx := 43) k_X5_its (by decide +kernel) cl_X5_its (by decide) rfl wd_1452 wd_1454 wd_28 (by decide) (e_sf_rec rfl))) (
  e_more (s_iconst (n := 3) (v := 3) (by decide +kernel) (by decide)) (
  e_more (s_irem (by decide +kernel)) (
  e_more (s_if_ne (off := 7) (by decide +kernel) (by decide)) (
  e_more (s_iconst (n := 1) (v := 1) (by decide +kernel) (by decide)) (
  e_more (s_goto (off := 4) (by decide +kernel) (by decide)) (
  e_more (s_iconst (n := 0) (v := 0) (by decide +kernel) (by decide)) (
  e_more (e_call0 (s_callV (c := 5) (idx := 92) k_X5_dents (by decide +kernel) cl_X5_dents (by decide) rfl wd_1484 wd_1486 wd_34 (by decide) (e_sf_rec rfl))) (
  e_more (s_iinc (z := 1) (n := 1) (by decide +kernel) (by decide) (by decide)) (
  e_more (s_goto (off := (-118)) (by decide +kernel) (by decide)) (
  e_more (s_aload_n (k := 0) (by decide +kernel) rfl) (
  e_more (s_getR (c := 5) (j := 0) (idx := 7) (by decide +kernel) (by decide) (by decide) rfl wd_1349) (
  e_more (s_iconst (n := 4) (v := 4) (by decide +kernel) (by decide)) (
  e_more (s_iconst (n := 1) (v := 1) (by decide +kernel) (by decide)) (
  e_more (s_iast (by decide +kernel)) (
  e_more (s_aload_n (k := 0) (by decide +kernel) rfl) (
  e_no_more))))))))))))))))))))))))))))))))))))))))
def tb_X5_doMarch_2 : eTb := [(140, t_getR e_rf 5 0 140), (143, t_push (.inl 6) 2 143), (145, t_dup2 145), (146, t_iald 146), (147, t_push (.inl 1) 1 147), (148, t_ii (fun a b => a + b) 148), (149, t_iast 149), (150, t_ldO 0 1 150), (151, t_getR e_rf 5 0 151), (154, t_push (.inl 7) 2 154), (156, t_dup2 156), (157, t_iald 157), (158, t_ldI 3 1 158), (159, t_ii (fun a b => a + b) 159), (160, t_iast 160), (161, t_ldO 0 1 161), (162, t_getR e_rf 5 0 162), (165, t_push (.inl 9) 2 165), (167, t_dup2 167), (168, t_iald 168), (169, t_ldI 2 1 169), (170, t_ii (fun a b => a + b) 170), (171, t_iast 171), (172, t_ldO 0 1 172), (173, t_getR e_rf 5 0 173), (176, t_push (.inl 8) 2 176), (178, t_dup2 178), (179, t_iald 179), (180, t_ldI 2 1 180), (181, t_ii (fun a b => a + b) 181), (182, t_iast 182), (183, t_ldI 3 1 183), (184, t_jret)]
theorem st_X5_doMarch_2 : ∀ x ∈ tb_X5_doMarch_2, e_Sd e_rf RX5 i_X5_doMarch x.1 x.2 :=
  e_more (s_getR (c := 5) (j := 0) (idx := 7) (by decide +kernel) (by decide) (by decide) rfl wd_1349) (
  e_more (s_bipush (n := 6) (v := 6) (by decide +kernel) (by decide)) (
  e_more (s_dup2 (by decide +kernel)) (
  e_more (s_iald (by decide +kernel)) (
  e_more (s_iconst (n := 1) (v := 1) (by decide +kernel) (by decide)) (
  e_more (s_iadd (by decide +kernel)) (
  e_more (s_iast (by decide +kernel)) (
  e_more (s_aload_n (k := 0) (by decide +kernel) rfl) (
  e_more (s_getR (c := 5) (j := 0) (idx := 7) (by decide +kernel) (by decide) (by decide) rfl wd_1349) (
  e_more (s_bipush (n := 7) (v := 7) (by decide +kernel) (by decide)) (
  e_more (s_dup2 (by decide +kernel)) (
  e_more (s_iald (by decide +kernel)) (
  e_more (s_iload_n (k := 3) (by decide +kernel) rfl) (
  e_more (s_iadd (by decide +kernel)) (
  e_more (s_iast (by decide +kernel)) (
  e_more (s_aload_n (k := 0) (by decide +kernel) rfl) (
  e_more (s_getR (c := 5) (j := 0) (idx := 7) (by decide +kernel) (by decide) (by decide) rfl wd_1349) (
  e_more (s_bipush (n := 9) (v := 9) (by decide +kernel) (by decide)) (
  e_more (s_dup2 (by decide +kernel)) (
  e_more (s_iald (by decide +kernel)) (
  e_more (s_iload_n (k := 2) (by decide +kernel) rfl) (
  e_more (s_iadd (by decide +kernel)) (
  e_more (s_iast (by decide +kernel)) (
  e_more (s_aload_n (k := 0) (by decide +kernel) rfl) (
  e_more (s_getR (c := 5) (j := 0) (idx := 7) (by decide +kernel) (by decide) (by decide) rfl wd_1349) (
  e_more (s_bipush (n := 8) (v := 8) (by decide +kernel) (by decide)) (
  e_more (s_dup2 (by decide +kernel)) (
  e_more (s_iald (by decide +kernel)) (
  e_more (s_iload_n (k := 2) (by decide +kernel) rfl) (
  e_more (s_iadd (by decide +kernel)) (
  e_more (s_iast (by decide +kernel)) (
  e_more (s_iload_n (k := 3) (by decide +kernel) rfl) (
  e_more (s_jret (by decide +kernel) rfl) (
  e_no_more)))))))))))))))))))))))))))))))))
def tb_X5_doMarch : eTb := tb_X5_doMarch_0 ++ tb_X5_doMarch_1 ++ tb_X5_doMarch_2
theorem st_X5_doMarch : ∀ x ∈ tb_X5_doMarch, e_Sd e_rf RX5 i_X5_doMarch x.1 x.2 := e_app (e_app (st_X5_doMarch_0) st_X5_doMarch_1) st_X5_doMarch_2
def w_X5_doMarch : eW := e_sf 13 (e_rn tb_X5_doMarch (iL i_X5_doMarch) 0 0)
theorem k_X5_doMarch : e_OK e_rf i_X5_doMarch 0 0 w_X5_doMarch := k_sf (k_rn (own := RX5) ⟨by decide +kernel, rfl⟩ st_X5_doMarch)
abbrev i_X5_lendError : eI := (yX5_lendError, cX5_lendError, 3, (some .int), 3)
theorem cl_X5_lendError : e_Cl i_X5_lendError 2 := ⟨wd_1439, wd_82, ⟨by decide, by decide⟩, by decide +kernel, by decide⟩
def tb_X5_lendError : eTb := [(0, t_ldO 0 1 0), (1, t_ldI 1 1 1), (2, t_call0 2 w_X5_isInstrument 2), (5, t_if (fun a => a = 0) 16 5), (8, t_ldO 0 1 8), (9, t_ldI 2 1 9), (10, t_call0 2 w_X5_isPupil 10), (13, t_ifn (fun a => a = 0) 20 13), (16, t_push (.inl 1) 1 16), (17, t_goto 34), (20, t_ldO 0 1 20), (21, t_ldI 1 1 21), (22, t_ldI 2 1 22), (23, t_call0 3 w_X5_reasonOfLoan 23), (26, t_if (fun a => a ≤ 0) 33 26), (29, t_push (.inl 2) 1 29), (30, t_goto 34), (33, t_push (.inl 0) 1 33), (34, t_jret)]
theorem st_X5_lendError : ∀ x ∈ tb_X5_lendError, e_Sd e_rf RX5 i_X5_lendError x.1 x.2 :=
  e_more (s_aload_n (k := 0) (by decide +kernel) rfl) (
  e_more (s_iload_n (k := 1) (by decide +kernel) rfl) (
  e_more (e_call0 (s_callV (c := 5) (idx := 96) k_X5_isInstrument (by decide +kernel) cl_X5_isInstrument (by decide) rfl wd_1440 wd_1442 wd_25 (by decide) (e_sf_rec rfl))) (
  e_more (s_if_eq (off := 11) (by decide +kernel) (by decide)) (
  e_more (s_aload_n (k := 0) (by decide +kernel) rfl) (
  e_more (s_iload_n (k := 2) (by decide +kernel) rfl) (
  e_more (e_call0 (s_callV (c := 5) (idx := 99) k_X5_isPupil (by decide +kernel) cl_X5_isPupil (by decide) rfl wd_1444 wd_1446 wd_26 (by decide) (e_sf_rec rfl))) (
  e_more (s_if_ne (off := 7) (by decide +kernel) (by decide)) (
  e_more (s_iconst (n := 1) (v := 1) (by decide +kernel) (by decide)) (
  e_more (s_goto (off := 17) (by decide +kernel) (by decide)) (
  e_more (s_aload_n (k := 0) (by decide +kernel) rfl) (
  e_more (s_iload_n (k := 1) (by decide +kernel) rfl) (
  e_more (s_iload_n (k := 2) (by decide +kernel) rfl) (
  e_more (e_call0 (s_callV (c := 5) (idx := 102) k_X5_reasonOfLoan (by decide +kernel) cl_X5_reasonOfLoan (by decide) rfl wd_1448 wd_1450 wd_27 (by decide) (e_sf_rec rfl))) (
  e_more (s_if_le (off := 7) (by decide +kernel) (by decide)) (
  e_more (s_iconst (n := 2) (v := 2) (by decide +kernel) (by decide)) (
  e_more (s_goto (off := 4) (by decide +kernel) (by decide)) (
  e_more (s_iconst (n := 0) (v := 0) (by decide +kernel) (by decide)) (
  e_more (s_jret (by decide +kernel) rfl) (
  e_no_more)))))))))))))))))))
def w_X5_lendError : eW := e_sf 13 (e_rn tb_X5_lendError (iL i_X5_lendError) 0 0)
theorem k_X5_lendError : e_OK e_rf i_X5_lendError 0 0 w_X5_lendError := k_sf (k_rn (own := RX5) ⟨by decide +kernel, rfl⟩ st_X5_lendError)
abbrev i_X5_backError : eI := (yX5_backError, cX5_backError, 2, (some .int), 2)
theorem cl_X5_backError : e_Cl i_X5_backError 1 := ⟨wd_1475, wd_82, ⟨by decide, by decide⟩, by decide +kernel, by decide⟩
def tb_X5_backError : eTb := [(0, t_ldO 0 1 0), (1, t_ldI 1 1 1), (2, t_call0 2 w_X5_isInstrument 2), (5, t_ifn (fun a => a = 0) 12 5), (8, t_push (.inl 1) 1 8), (9, t_goto 26), (12, t_ldO 0 1 12), (13, t_ldI 1 1 13), (14, t_push (.inl 2) 1 14), (15, t_call0 3 w_X5_its 15), (18, t_ifn (fun a => a = 0) 25 18), (21, t_push (.inl 2) 1 21), (22, t_goto 26), (25, t_push (.inl 0) 1 25), (26, t_jret)]
theorem st_X5_backError : ∀ x ∈ tb_X5_backError, e_Sd e_rf RX5 i_X5_backError x.1 x.2 :=
  e_more (s_aload_n (k := 0) (by decide +kernel) rfl) (
  e_more (s_iload_n (k := 1) (by decide +kernel) rfl) (
  e_more (e_call0 (s_callV (c := 5) (idx := 96) k_X5_isInstrument (by decide +kernel) cl_X5_isInstrument (by decide) rfl wd_1440 wd_1442 wd_25 (by decide) (e_sf_rec rfl))) (
  e_more (s_if_ne (off := 7) (by decide +kernel) (by decide)) (
  e_more (s_iconst (n := 1) (v := 1) (by decide +kernel) (by decide)) (
  e_more (s_goto (off := 17) (by decide +kernel) (by decide)) (
  e_more (s_aload_n (k := 0) (by decide +kernel) rfl) (
  e_more (s_iload_n (k := 1) (by decide +kernel) rfl) (
  e_more (s_iconst (n := 2) (v := 2) (by decide +kernel) (by decide)) (
  e_more (e_call0 (s_callV (c := 5) (idx := 43) k_X5_its (by decide +kernel) cl_X5_its (by decide) rfl wd_1452 wd_1454 wd_28 (by decide) (e_sf_rec rfl))) (
  e_more (s_if_ne (off := 7) (by decide +kernel) (by decide)) (
  e_more (s_iconst (n := 2) (v := 2) (by decide +kernel) (by decide)) (
  e_more (s_goto (off := 4) (by decide +kernel) (by decide)) (
  e_more (s_iconst (n := 0) (v := 0) (by decide +kernel) (by decide)) (
  e_more (s_jret (by decide +kernel) rfl) (
  e_no_more)))))))))))))))
def w_X5_backError : eW := e_sf 13 (e_rn tb_X5_backError (iL i_X5_backError) 0 0)
theorem k_X5_backError : e_OK e_rf i_X5_backError 0 0 w_X5_backError := k_sf (k_rn (own := RX5) ⟨by decide +kernel, rfl⟩ st_X5_backError)
abbrev i_X5_mendError : eI := (yX5_mendError, cX5_mendError, 2, (some .int), 2)
theorem cl_X5_mendError : e_Cl i_X5_mendError 1 := ⟨wd_1495, wd_82, ⟨by decide, by decide⟩, by decide +kernel, by decide⟩
def tb_X5_mendError : eTb := [(0, t_ldO 0 1 0), (1, t_ldI 1 1 1), (2, t_call0 2 w_X5_isInstrument 2), (5, t_ifn (fun a => a = 0) 12 5), (8, t_push (.inl 1) 1 8), (9, t_goto 26), (12, t_ldO 0 1 12), (13, t_ldI 1 1 13), (14, t_push (.inl 2) 1 14), (15, t_call0 3 w_X5_its 15), (18, t_if (fun a => a ≤ 0) 25 18), (21, t_push (.inl 2) 1 21), (22, t_goto 26), (25, t_push (.inl 0) 1 25), (26, t_jret)]
theorem st_X5_mendError : ∀ x ∈ tb_X5_mendError, e_Sd e_rf RX5 i_X5_mendError x.1 x.2 :=
  e_more (s_aload_n (k := 0) (by decide +kernel) rfl) (
  e_more (s_iload_n (k := 1) (by decide +kernel) rfl) (
  e_more (e_call0 (s_callV (c := 5) (idx := 96) k_X5_isInstrument (by decide +kernel) cl_X5_isInstrument (by decide) rfl wd_1440 wd_1442 wd_25 (by decide) (e_sf_rec rfl))) (
  e_more (s_if_ne (off := 7) (by decide +kernel) (by decide)) (
  e_more (s_iconst (n := 1) (v := 1) (by decide +kernel) (by decide)) (
  e_more (s_goto (off := 17) (by decide +kernel) (by decide)) (
  e_more (s_aload_n (k := 0) (by decide +kernel) rfl) (
  e_more (s_iload_n (k := 1) (by decide +kernel) rfl) (
  e_more (s_iconst (n := 2) (v := 2) (by decide +kernel) (by decide)) (
  e_more (e_call0 (s_callV (c := 5) (idx := 43) k_X5_its (by decide +kernel) cl_X5_its (by decide) rfl wd_1452 wd_1454 wd_28 (by decide) (e_sf_rec rfl))) (
  e_more (s_if_le (off := 7) (by decide +kernel) (by decide)) (
  e_more (s_iconst (n := 2) (v := 2) (by decide +kernel) (by decide)) (
  e_more (s_goto (off := 4) (by decide +kernel) (by decide)) (
  e_more (s_iconst (n := 0) (v := 0) (by decide +kernel) (by decide)) (
  e_more (s_jret (by decide +kernel) rfl) (
  e_no_more)))))))))))))))
def w_X5_mendError : eW := e_sf 13 (e_rn tb_X5_mendError (iL i_X5_mendError) 0 0)
theorem k_X5_mendError : e_OK e_rf i_X5_mendError 0 0 w_X5_mendError := k_sf (k_rn (own := RX5) ⟨by decide +kernel, rfl⟩ st_X5_mendError)
abbrev i_X5_teachError : eI := (yX5_teachError, cX5_teachError, 3, (some .int), 4)
theorem cl_X5_teachError : e_Cl i_X5_teachError 2 := ⟨wd_1523, wd_82, ⟨by decide, by decide⟩, by decide +kernel, by decide⟩
def tb_X5_teachError : eTb := [(0, t_ldO 0 1 0), (1, t_ldI 1 1 1), (2, t_call0 2 w_X5_isPupil 2), (5, t_if (fun a => a = 0) 15 5), (8, t_ldI 2 1 8), (9, t_call0 1 w_X5_isTeacher 9), (12, t_ifn (fun a => a = 0) 19 12), (15, t_push (.inl 1) 1 15), (16, t_goto 33), (19, t_ldO 0 1 19), (20, t_ldI 1 1 20), (21, t_ldI 2 1 21), (22, t_call0 3 w_X5_reasonOfLesson 22), (25, t_if (fun a => a ≤ 0) 32 25), (28, t_push (.inl 2) 1 28), (29, t_goto 33), (32, t_push (.inl 0) 1 32), (33, t_jret)]
theorem st_X5_teachError : ∀ x ∈ tb_X5_teachError, e_Sd e_rf RX5 i_X5_teachError x.1 x.2 :=
  e_more (s_aload_n (k := 0) (by decide +kernel) rfl) (
  e_more (s_iload_n (k := 1) (by decide +kernel) rfl) (
  e_more (e_call0 (s_callV (c := 5) (idx := 99) k_X5_isPupil (by decide +kernel) cl_X5_isPupil (by decide) rfl wd_1444 wd_1446 wd_26 (by decide) (e_sf_rec rfl))) (
  e_more (s_if_eq (off := 10) (by decide +kernel) (by decide)) (
  e_more (s_iload_n (k := 2) (by decide +kernel) rfl) (
  e_more (e_call0 (s_callS (idx := 105) k_X5_isTeacher (by decide +kernel) cl_X5_isTeacher wd_1524 wd_1525 (by decide))) (
  e_more (s_if_ne (off := 7) (by decide +kernel) (by decide)) (
  e_more (s_iconst (n := 1) (v := 1) (by decide +kernel) (by decide)) (
  e_more (s_goto (off := 17) (by decide +kernel) (by decide)) (
  e_more (s_aload_n (k := 0) (by decide +kernel) rfl) (
  e_more (s_iload_n (k := 1) (by decide +kernel) rfl) (
  e_more (s_iload_n (k := 2) (by decide +kernel) rfl) (
  e_more (e_call0 (s_callV (c := 5) (idx := 108) k_X5_reasonOfLesson (by decide +kernel) cl_X5_reasonOfLesson (by decide) rfl wd_1527 wd_1529 wd_39 (by decide) (e_sf_rec rfl))) (
  e_more (s_if_le (off := 7) (by decide +kernel) (by decide)) (
  e_more (s_iconst (n := 2) (v := 2) (by decide +kernel) (by decide)) (
  e_more (s_goto (off := 4) (by decide +kernel) (by decide)) (
  e_more (s_iconst (n := 0) (v := 0) (by decide +kernel) (by decide)) (
  e_more (s_jret (by decide +kernel) rfl) (
  e_no_more))))))))))))))))))
def w_X5_teachError : eW := e_sf 13 (e_rn tb_X5_teachError (iL i_X5_teachError) 0 0)
theorem k_X5_teachError : e_OK e_rf i_X5_teachError 0 0 w_X5_teachError := k_sf (k_rn (own := RX5) ⟨by decide +kernel, rfl⟩ st_X5_teachError)
abbrev i_X5_marchError : eI := (yX5_marchError, cX5_marchError, 2, (some .int), 2)
theorem cl_X5_marchError : e_Cl i_X5_marchError 1 := ⟨wd_1556, wd_82, ⟨by decide, by decide⟩, by decide +kernel, by decide⟩
def tb_X5_marchError : eTb := [(0, t_ldI 1 1 0), (1, t_call0 1 w_X5_isMarch 1), (4, t_ifn (fun a => a = 0) 11 4), (7, t_push (.inl 1) 1 7), (8, t_goto 33), (11, t_ldO 0 1 11), (12, t_call0 1 w_X5_isSunday 12), (15, t_if (fun a => a = 0) 28 15), (18, t_ldO 0 1 18), (19, t_getR e_rf 5 0 19), (22, t_ialc 4 1 22), (24, t_push (.inl 1) 1 24), (25, t_icn (fun a b => a = b) 32 25), (28, t_push (.inl 2) 1 28), (29, t_goto 33), (32, t_push (.inl 0) 1 32), (33, t_jret)]
theorem st_X5_marchError : ∀ x ∈ tb_X5_marchError, e_Sd e_rf RX5 i_X5_marchError x.1 x.2 :=
  e_more (s_iload_n (k := 1) (by decide +kernel) rfl) (
  e_more (e_call0 (s_callS (idx := 111) k_X5_isMarch (by decide +kernel) cl_X5_isMarch wd_1557 wd_1558 (by decide))) (
  e_more (s_if_ne (off := 7) (by decide +kernel) (by decide)) (
  e_more (s_iconst (n := 1) (v := 1) (by decide +kernel) (by decide)) (
  e_more (s_goto (off := 25) (by decide +kernel) (by decide)) (
  e_more (s_aload_n (k := 0) (by decide +kernel) rfl) (
  e_more (e_call0 (s_callV (c := 5) (idx := 114) k_X5_isSunday (by decide +kernel) cl_X5_isSunday (by decide) rfl wd_1560 wd_1562 wd_44 (by decide) (e_sf_rec rfl))) (
  e_more (s_if_eq (off := 13) (by decide +kernel) (by decide)) (
  e_more (s_aload_n (k := 0) (by decide +kernel) rfl) (
  e_more (s_getR (c := 5) (j := 0) (idx := 7) (by decide +kernel) (by decide) (by decide) rfl wd_1349) (
  e_more (s_ialc (n := 4) (x := 4) (s_iconst (n := 4) (v := 4) (by decide +kernel) (by decide)) (by decide +kernel) (by decide) (by decide)) (
  e_more (s_iconst (n := 1) (v := 1) (by decide +kernel) (by decide)) (
  e_more (s_ic_ne (off := 7) (by decide +kernel) (by decide)) (
  e_more (s_iconst (n := 2) (v := 2) (by decide +kernel) (by decide)) (
  e_more (s_goto (off := 4) (by decide +kernel) (by decide)) (
  e_more (s_iconst (n := 0) (v := 0) (by decide +kernel) (by decide)) (
  e_more (s_jret (by decide +kernel) rfl) (
  e_no_more)))))))))))))))))
def w_X5_marchError : eW := e_sf 13 (e_rn tb_X5_marchError (iL i_X5_marchError) 0 0)
theorem k_X5_marchError : e_OK e_rf i_X5_marchError 0 0 w_X5_marchError := k_sf (k_rn (own := RX5) ⟨by decide +kernel, rfl⟩ st_X5_marchError)
abbrev i_X5_pupil : eI := (yX5_pupil, cX5_pupil, 3, (some .int), 2)
theorem cl_X5_pupil : e_Cl i_X5_pupil 1 := ⟨wd_1405, wd_82, ⟨by decide, by decide⟩, by decide +kernel, by decide⟩
def tb_X5_pupil_0 : eTb := [(0, t_ldO 0 1 0), (1, t_ldI 1 1 1), (2, t_push (.inl 5) 1 2), (3, t_push (.inl 30) 2 3), (5, t_call0 3 w_X5_in 5), (8, t_ifn (fun a => a = 0) 15 8), (11, t_push (.inl 1) 1 11), (12, t_goto 31), (15, t_ldO 0 1 15), (16, t_getR e_rf 5 0 16), (19, t_ialc 0 1 19), (21, t_push (.inl 10) 2 21), (23, t_icn (fun a b => a = b) 30 23), (26, t_push (.inl 2) 1 26), (27, t_goto 31), (30, t_push (.inl 0) 1 30), (31, t_call0 2 w_X5_holds 31), (34, t_ifn (fun a => a = 0) 39 34), (37, t_push (.inl 0) 1 37), (38, t_jret), (39, t_ldO 0 1 39), (40, t_call0 1 w_X5_save 40), (43, t_ldO 0 1 43), (44, t_getR e_rf 5 0 44), (47, t_ialc 0 1 47), (49, t_stI 2 1 49), (50, t_ldO 0 1 50), (51, t_ldI 2 1 51), (52, t_push (.inl 0) 1 52), (53, t_ldI 1 1 53), (54, t_call0 4 w_X5_put 54), (57, t_ldO 0 1 57), (58, t_ldI 2 1 58), (59, t_push (.inl 1) 1 59), (60, t_ldI 1 1 60), (61, t_call0 4 w_X5_put 61), (64, t_ldO 0 1 64), (65, t_ldI 2 1 65), (66, t_push (.inl 2) 1 66), (67, t_push (.inl 1) 1 67)]
theorem st_X5_pupil_0 : ∀ x ∈ tb_X5_pupil_0, e_Sd e_rf RX5 i_X5_pupil x.1 x.2 :=
  e_more (s_aload_n (k := 0) (by decide +kernel) rfl) (
  e_more (s_iload_n (k := 1) (by decide +kernel) rfl) (
  e_more (s_iconst (n := 5) (v := 5) (by decide +kernel) (by decide)) (
  e_more (s_bipush (n := 30) (v := 30) (by decide +kernel) (by decide)) (
  e_more (e_call0 (s_callS (idx := 32) k_X5_in (by decide +kernel) cl_X5_in wd_1406 wd_1407 (by decide))) (
  e_more (s_if_ne (off := 7) (by decide +kernel) (by decide)) (
  e_more (s_iconst (n := 1) (v := 1) (by decide +kernel) (by decide)) (
  e_more (s_goto (off := 19) (by decide +kernel) (by decide)) (
  e_more (s_aload_n (k := 0) (by decide +kernel) rfl) (
  e_more (s_getR (c := 5) (j := 0) (idx := 7) (by decide +kernel) (by decide) (by decide) rfl wd_1349) (
  e_more (s_ialc (n := 0) (x := 0) (s_iconst (n := 0) (v := 0) (by decide +kernel) (by decide)) (by decide +kernel) (by decide) (by decide)) (
  e_more (s_bipush (n := 10) (v := 10) (by decide +kernel) (by decide)) (
  e_more (s_ic_ne (off := 7) (by decide +kernel) (by decide)) (
  e_more (s_iconst (n := 2) (v := 2) (by decide +kernel) (by decide)) (
  e_more (s_goto (off := 4) (by decide +kernel) (by decide)) (
  e_more (s_iconst (n := 0) (v := 0) (by decide +kernel) (by decide)) (
  e_more (e_call0 (s_callV (c := 5) (idx := 118) k_X5_holds (by decide +kernel) cl_X5_holds (by decide) rfl wd_1409 wd_1411 wd_20 (by decide) (e_sf_rec rfl))) (
  e_more (s_if_ne (off := 5) (by decide +kernel) (by decide)) (
  e_more (s_iconst (n := 0) (v := 0) (by decide +kernel) (by decide)) (
  e_more (s_jret (by decide +kernel) rfl) (
  e_more (s_aload_n (k := 0) (by decide +kernel) rfl) (
  e_more (e_call0 (s_callV (c := 5) (idx := 121) k_X5_save (by decide +kernel) cl_X5_save (by decide) rfl wd_1413 wd_1415 wd_21 (by decide) (e_sf_rec rfl))) (
  e_more (s_aload_n (k := 0) (by decide +kernel) rfl) (
  e_more (s_getR (c := 5) (j := 0) (idx := 7) (by decide +kernel) (by decide) (by decide) rfl wd_1349) (
  e_more (s_ialc (n := 0) (x := 0) (s_iconst (n := 0) (v := 0) (by decide +kernel) (by decide)) (by decide +kernel) (by decide) (by decide)) (
  e_more (s_istore_n (k := 2) (by decide +kernel) rfl (by decide)) (
  e_more (s_aload_n (k := 0) (by decide +kernel) rfl) (
  e_more (s_iload_n (k := 2) (by decide +kernel) rfl) (
  e_more (s_iconst (n := 0) (v := 0) (by decide +kernel) (by decide)) (
  e_more (s_iload_n (k := 1) (by decide +kernel) rfl) (
  e_more (e_call0 (s_callV (c := 5) (idx := 83) k_X5_put (by decide +kernel) cl_X5_put (by decide) rfl wd_1420 wd_1422 wd_22 (by decide) (e_sf_rec rfl))) (
  e_more (s_aload_n (k := 0) (by decide +kernel) rfl) (
  e_more (s_iload_n (k := 2) (by decide +kernel) rfl) (
  e_more (s_iconst (n := 1) (v := 1) (by decide +kernel) (by decide)) (
  e_more (s_iload_n (k := 1) (by decide +kernel) rfl) (
  e_more (e_call0 (s_callV (c := 5) (idx := 83) k_X5_put (by decide +kernel) cl_X5_put (by decide) rfl wd_1420 wd_1422 wd_22 (by decide) (e_sf_rec rfl))) (
  e_more (s_aload_n (k := 0) (by decide +kernel) rfl) (
  e_more (s_iload_n (k := 2) (by decide +kernel) rfl) (
  e_more (s_iconst (n := 2) (v := 2) (by decide +kernel) (by decide)) (
  e_more (s_iconst (n := 1) (v := 1) (by decide +kernel) (by decide)) (
  e_no_more))))))))))))))))))))))))))))))))))))))))
def tb_X5_pupil_1 : eTb := [(68, t_call0 4 w_X5_put 68), (71, t_ldO 0 1 71), (72, t_getR e_rf 5 0 72), (75, t_push (.inl 0) 1 75), (76, t_dup2 76), (77, t_iald 77), (78, t_push (.inl 1) 1 78), (79, t_ii (fun a b => a + b) 79), (80, t_iast 80), (81, t_ldI 2 1 81), (82, t_jret)]
theorem st_X5_pupil_1 : ∀ x ∈ tb_X5_pupil_1, e_Sd e_rf RX5 i_X5_pupil x.1 x.2 :=
  e_more (e_call0 (s_callV (c := 5) (idx := 83) k_X5_put (by decide +kernel) cl_X5_put (by decide) rfl wd_1420 wd_1422 wd_22 (by decide) (e_sf_rec rfl))) (
  e_more (s_aload_n (k := 0) (by decide +kernel) rfl) (
  e_more (s_getR (c := 5) (j := 0) (idx := 7) (by decide +kernel) (by decide) (by decide) rfl wd_1349) (
  e_more (s_iconst (n := 0) (v := 0) (by decide +kernel) (by decide)) (
  e_more (s_dup2 (by decide +kernel)) (
  e_more (s_iald (by decide +kernel)) (
  e_more (s_iconst (n := 1) (v := 1) (by decide +kernel) (by decide)) (
  e_more (s_iadd (by decide +kernel)) (
  e_more (s_iast (by decide +kernel)) (
  e_more (s_iload_n (k := 2) (by decide +kernel) rfl) (
  e_more (s_jret (by decide +kernel) rfl) (
  e_no_more)))))))))))
def tb_X5_pupil : eTb := tb_X5_pupil_0 ++ tb_X5_pupil_1
theorem st_X5_pupil : ∀ x ∈ tb_X5_pupil, e_Sd e_rf RX5 i_X5_pupil x.1 x.2 := e_app (st_X5_pupil_0) st_X5_pupil_1
def w_X5_pupil : eW := e_sf 13 (e_rn tb_X5_pupil (iL i_X5_pupil) 0 0)
theorem k_X5_pupil : e_OK e_rf i_X5_pupil 0 0 w_X5_pupil := k_sf (k_rn (own := RX5) ⟨by decide +kernel, rfl⟩ st_X5_pupil)
abbrev i_X5_instrument : eI := (yX5_instrument, cX5_instrument, 2, (some .int), 2)
theorem cl_X5_instrument : e_Cl i_X5_instrument 1 := ⟨wd_1427, wd_82, ⟨by decide, by decide⟩, by decide +kernel, by decide⟩
def tb_X5_instrument_0 : eTb := [(0, t_ldO 0 1 0), (1, t_ldI 1 1 1), (2, t_push (.inl 0) 1 2), (3, t_push (.inl 3) 1 3), (4, t_call0 3 w_X5_in 4), (7, t_ifn (fun a => a = 0) 14 7), (10, t_push (.inl 1) 1 10), (11, t_goto 30), (14, t_ldO 0 1 14), (15, t_getR e_rf 5 0 15), (18, t_ialc 1 1 18), (20, t_push (.inl 10) 2 20), (22, t_icn (fun a b => a = b) 29 22), (25, t_push (.inl 2) 1 25), (26, t_goto 30), (29, t_push (.inl 0) 1 29), (30, t_call0 2 w_X5_holds 30), (33, t_ifn (fun a => a = 0) 38 33), (36, t_push (.inl 0) 1 36), (37, t_jret), (38, t_ldO 0 1 38), (39, t_call0 1 w_X5_save 39), (42, t_ldO 0 1 42), (43, t_ldO 0 1 43), (44, t_getR e_rf 5 0 44), (47, t_ialc 1 1 47), (49, t_push (.inl 0) 1 49), (50, t_ldI 1 1 50), (51, t_call0 4 w_X5_lay 51), (54, t_ldO 0 1 54), (55, t_getR e_rf 5 0 55), (58, t_push (.inl 1) 1 58), (59, t_dup2 59), (60, t_iald 60), (61, t_push (.inl 1) 1 61), (62, t_ii (fun a b => a + b) 62), (63, t_iast 63), (64, t_ldO 0 1 64), (65, t_getR e_rf 5 0 65), (68, t_ialc 1 1 68)]
theorem st_X5_instrument_0 : ∀ x ∈ tb_X5_instrument_0, e_Sd e_rf RX5 i_X5_instrument x.1 x.2 :=
  e_more (s_aload_n (k := 0) (by decide +kernel) rfl) (
  e_more (s_iload_n (k := 1) (by decide +kernel) rfl) (
  e_more (s_iconst (n := 0) (v := 0) (by decide +kernel) (by decide)) (
  e_more (s_iconst (n := 3) (v := 3) (by decide +kernel) (by decide)) (
  e_more (e_call0 (s_callS (idx := 32) k_X5_in (by decide +kernel) cl_X5_in wd_1406 wd_1407 (by decide))) (
  e_more (s_if_ne (off := 7) (by decide +kernel) (by decide)) (
  e_more (s_iconst (n := 1) (v := 1) (by decide +kernel) (by decide)) (
  e_more (s_goto (off := 19) (by decide +kernel) (by decide)) (
  e_more (s_aload_n (k := 0) (by decide +kernel) rfl) (
  e_more (s_getR (c := 5) (j := 0) (idx := 7) (by decide +kernel) (by decide) (by decide) rfl wd_1349) (
  e_more (s_ialc (n := 1) (x := 1) (s_iconst (n := 1) (v := 1) (by decide +kernel) (by decide)) (by decide +kernel) (by decide) (by decide)) (
  e_more (s_bipush (n := 10) (v := 10) (by decide +kernel) (by decide)) (
  e_more (s_ic_ne (off := 7) (by decide +kernel) (by decide)) (
  e_more (s_iconst (n := 2) (v := 2) (by decide +kernel) (by decide)) (
  e_more (s_goto (off := 4) (by decide +kernel) (by decide)) (
  e_more (s_iconst (n := 0) (v := 0) (by decide +kernel) (by decide)) (
  e_more (e_call0 (s_callV (c := 5) (idx := 118) k_X5_holds (by decide +kernel) cl_X5_holds (by decide) rfl wd_1409 wd_1411 wd_20 (by decide) (e_sf_rec rfl))) (
  e_more (s_if_ne (off := 5) (by decide +kernel) (by decide)) (
  e_more (s_iconst (n := 0) (v := 0) (by decide +kernel) (by decide)) (
  e_more (s_jret (by decide +kernel) rfl) (
  e_more (s_aload_n (k := 0) (by decide +kernel) rfl) (
  e_more (e_call0 (s_callV (c := 5) (idx := 121) k_X5_save (by decide +kernel) cl_X5_save (by decide) rfl wd_1413 wd_1415 wd_21 (by decide) (e_sf_rec rfl))) (
  e_more (s_aload_n (k := 0) (by decide +kernel) rfl) (
  e_more (s_aload_n (k := 0) (by decide +kernel) rfl) (
  e_more (s_getR (c := 5) (j := 0) (idx := 7) (by decide +kernel) (by decide) (by decide) rfl wd_1349) (
  e_more (s_ialc (n := 1) (x := 1) (s_iconst (n := 1) (v := 1) (by decide +kernel) (by decide)) (by decide +kernel) (by decide) (by decide)) (
  e_more (s_iconst (n := 0) (v := 0) (by decide +kernel) (by decide)) (
  e_more (s_iload_n (k := 1) (by decide +kernel) rfl) (
  e_more (e_call0 (s_callV (c := 5) (idx := 79) k_X5_lay (by decide +kernel) cl_X5_lay (by decide) rfl wd_1428 wd_1430 wd_23 (by decide) (e_sf_rec rfl))) (
  e_more (s_aload_n (k := 0) (by decide +kernel) rfl) (
  e_more (s_getR (c := 5) (j := 0) (idx := 7) (by decide +kernel) (by decide) (by decide) rfl wd_1349) (
  e_more (s_iconst (n := 1) (v := 1) (by decide +kernel) (by decide)) (
  e_more (s_dup2 (by decide +kernel)) (
  e_more (s_iald (by decide +kernel)) (
  e_more (s_iconst (n := 1) (v := 1) (by decide +kernel) (by decide)) (
  e_more (s_iadd (by decide +kernel)) (
  e_more (s_iast (by decide +kernel)) (
  e_more (s_aload_n (k := 0) (by decide +kernel) rfl) (
  e_more (s_getR (c := 5) (j := 0) (idx := 7) (by decide +kernel) (by decide) (by decide) rfl wd_1349) (
  e_more (s_ialc (n := 1) (x := 1) (s_iconst (n := 1) (v := 1) (by decide +kernel) (by decide)) (by decide +kernel) (by decide) (by decide)) (
  e_no_more))))))))))))))))))))))))))))))))))))))))
def tb_X5_instrument_1 : eTb := [(70, t_push (.inl 1) 1 70), (71, t_ii (fun a b => a - b) 71), (72, t_jret)]
theorem st_X5_instrument_1 : ∀ x ∈ tb_X5_instrument_1, e_Sd e_rf RX5 i_X5_instrument x.1 x.2 :=
  e_more (s_iconst (n := 1) (v := 1) (by decide +kernel) (by decide)) (
  e_more (s_isub (by decide +kernel)) (
  e_more (s_jret (by decide +kernel) rfl) (
  e_no_more)))
def tb_X5_instrument : eTb := tb_X5_instrument_0 ++ tb_X5_instrument_1
theorem st_X5_instrument : ∀ x ∈ tb_X5_instrument, e_Sd e_rf RX5 i_X5_instrument x.1 x.2 := e_app (st_X5_instrument_0) st_X5_instrument_1
def w_X5_instrument : eW := e_sf 13 (e_rn tb_X5_instrument (iL i_X5_instrument) 0 0)
theorem k_X5_instrument : e_OK e_rf i_X5_instrument 0 0 w_X5_instrument := k_sf (k_rn (own := RX5) ⟨by decide +kernel, rfl⟩ st_X5_instrument)
abbrev i_X5_lend : eI := (yX5_lend, cX5_lend, 3, (some .int), 4)
theorem cl_X5_lend : e_Cl i_X5_lend 2 := ⟨wd_1435, wd_82, ⟨by decide, by decide⟩, by decide +kernel, by decide⟩
def tb_X5_lend : eTb := [(0, t_ldO 0 1 0), (1, t_ldO 0 1 1), (2, t_ldI 1 1 2), (3, t_ldI 2 1 3), (4, t_call0 3 w_X5_lendError 4), (7, t_call0 2 w_X5_holds 7), (10, t_ifn (fun a => a = 0) 15 10), (13, t_push (.inl 0) 1 13), (14, t_jret), (15, t_ldO 0 1 15), (16, t_call0 1 w_X5_save 16), (19, t_ldO 0 1 19), (20, t_ldI 1 1 20), (21, t_ldI 2 1 21), (22, t_call0 3 w_X5_doLend 22), (25, t_jret)]
theorem st_X5_lend : ∀ x ∈ tb_X5_lend, e_Sd e_rf RX5 i_X5_lend x.1 x.2 :=
  e_more (s_aload_n (k := 0) (by decide +kernel) rfl) (
  e_more (s_aload_n (k := 0) (by decide +kernel) rfl) (
  e_more (s_iload_n (k := 1) (by decide +kernel) rfl) (
  e_more (s_iload_n (k := 2) (by decide +kernel) rfl) (
  e_more (e_call0 (s_callV (c := 5) (idx := 124) k_X5_lendError (by decide +kernel) cl_X5_lendError (by decide) rfl wd_1436 wd_1438 wd_24 (by decide) (e_sf_rec rfl))) (
  e_more (e_call0 (s_callV (c := 5) (idx := 118) k_X5_holds (by decide +kernel) cl_X5_holds (by decide) rfl wd_1409 wd_1411 wd_20 (by decide) (e_sf_rec rfl))) (
  e_more (s_if_ne (off := 5) (by decide +kernel) (by decide)) (
  e_more (s_iconst (n := 0) (v := 0) (by decide +kernel) (by decide)) (
  e_more (s_jret (by decide +kernel) rfl) (
  e_more (s_aload_n (k := 0) (by decide +kernel) rfl) (
  e_more (e_call0 (s_callV (c := 5) (idx := 121) k_X5_save (by decide +kernel) cl_X5_save (by decide) rfl wd_1413 wd_1415 wd_21 (by decide) (e_sf_rec rfl))) (
  e_more (s_aload_n (k := 0) (by decide +kernel) rfl) (
  e_more (s_iload_n (k := 1) (by decide +kernel) rfl) (
  e_more (s_iload_n (k := 2) (by decide +kernel) rfl) (
  e_more (e_call0 (s_callV (c := 5) (idx := 127) k_X5_doLend (by decide +kernel) cl_X5_doLend (by decide) rfl wd_1464 wd_1466 wd_31 (by decide) (e_sf_rec rfl))) (
  e_more (s_jret (by decide +kernel) rfl) (
  e_no_more))))))))))))))))
def w_X5_lend : eW := e_sf 13 (e_rn tb_X5_lend (iL i_X5_lend) 0 0)
theorem k_X5_lend : e_OK e_rf i_X5_lend 0 0 w_X5_lend := k_sf (k_rn (own := RX5) ⟨by decide +kernel, rfl⟩ st_X5_lend)
abbrev i_X5_back : eI := (yX5_back, cX5_back, 2, (some .int), 3)
theorem cl_X5_back : e_Cl i_X5_back 1 := ⟨wd_1471, wd_82, ⟨by decide, by decide⟩, by decide +kernel, by decide⟩
def tb_X5_back : eTb := [(0, t_ldO 0 1 0), (1, t_ldO 0 1 1), (2, t_ldI 1 1 2), (3, t_call0 2 w_X5_backError 3), (6, t_call0 2 w_X5_holds 6), (9, t_ifn (fun a => a = 0) 14 9), (12, t_push (.inl 0) 1 12), (13, t_jret), (14, t_ldO 0 1 14), (15, t_call0 1 w_X5_save 15), (18, t_ldO 0 1 18), (19, t_ldI 1 1 19), (20, t_call0 2 w_X5_doBack 20), (23, t_jret)]
theorem st_X5_back : ∀ x ∈ tb_X5_back, e_Sd e_rf RX5 i_X5_back x.1 x.2 :=
  e_more (s_aload_n (k := 0) (by decide +kernel) rfl) (
  e_more (s_aload_n (k := 0) (by decide +kernel) rfl) (
  e_more (s_iload_n (k := 1) (by decide +kernel) rfl) (
  e_more (e_call0 (s_callV (c := 5) (idx := 130) k_X5_backError (by decide +kernel) cl_X5_backError (by decide) rfl wd_1472 wd_1474 wd_32 (by decide) (e_sf_rec rfl))) (
  e_more (e_call0 (s_callV (c := 5) (idx := 118) k_X5_holds (by decide +kernel) cl_X5_holds (by decide) rfl wd_1409 wd_1411 wd_20 (by decide) (e_sf_rec rfl))) (
  e_more (s_if_ne (off := 5) (by decide +kernel) (by decide)) (
  e_more (s_iconst (n := 0) (v := 0) (by decide +kernel) (by decide)) (
  e_more (s_jret (by decide +kernel) rfl) (
  e_more (s_aload_n (k := 0) (by decide +kernel) rfl) (
  e_more (e_call0 (s_callV (c := 5) (idx := 121) k_X5_save (by decide +kernel) cl_X5_save (by decide) rfl wd_1413 wd_1415 wd_21 (by decide) (e_sf_rec rfl))) (
  e_more (s_aload_n (k := 0) (by decide +kernel) rfl) (
  e_more (s_iload_n (k := 1) (by decide +kernel) rfl) (
  e_more (e_call0 (s_callV (c := 5) (idx := 133) k_X5_doBack (by decide +kernel) cl_X5_doBack (by decide) rfl wd_1476 wd_1478 wd_33 (by decide) (e_sf_rec rfl))) (
  e_more (s_jret (by decide +kernel) rfl) (
  e_no_more))))))))))))))
def w_X5_back : eW := e_sf 13 (e_rn tb_X5_back (iL i_X5_back) 0 0)
theorem k_X5_back : e_OK e_rf i_X5_back 0 0 w_X5_back := k_sf (k_rn (own := RX5) ⟨by decide +kernel, rfl⟩ st_X5_back)
abbrev i_X5_dent : eI := (yX5_dent, cX5_dent, 3, (some .int), 2)
theorem cl_X5_dent : e_Cl i_X5_dent 2 := ⟨wd_1483, wd_82, ⟨by decide, by decide⟩, by decide +kernel, by decide⟩
def tb_X5_dent : eTb := [(0, t_ldO 0 1 0), (1, t_ldO 0 1 1), (2, t_ldI 1 1 2), (3, t_call0 2 w_X5_isInstrument 3), (6, t_ifn (fun a => a = 0) 13 6), (9, t_push (.inl 1) 1 9), (10, t_goto 28), (13, t_ldI 2 1 13), (14, t_push (.inl 1) 1 14), (15, t_push (.inl 9) 2 15), (17, t_call0 3 w_X5_in 17), (20, t_ifn (fun a => a = 0) 27 20), (23, t_push (.inl 2) 1 23), (24, t_goto 28), (27, t_push (.inl 0) 1 27), (28, t_call0 2 w_X5_holds 28), (31, t_ifn (fun a => a = 0) 36 31), (34, t_push (.inl 0) 1 34), (35, t_jret), (36, t_ldO 0 1 36), (37, t_call0 1 w_X5_save 37), (40, t_ldO 0 1 40), (41, t_ldI 1 1 41), (42, t_ldI 2 1 42), (43, t_call0 3 w_X5_dents 43), (46, t_ldO 0 1 46), (47, t_ldI 1 1 47), (48, t_push (.inl 1) 1 48), (49, t_call0 3 w_X5_its 49), (52, t_jret)]
theorem st_X5_dent : ∀ x ∈ tb_X5_dent, e_Sd e_rf RX5 i_X5_dent x.1 x.2 :=
  e_more (s_aload_n (k := 0) (by decide +kernel) rfl) (
  e_more (s_aload_n (k := 0) (by decide +kernel) rfl) (
  e_more (s_iload_n (k := 1) (by decide +kernel) rfl) (
  e_more (e_call0 (s_callV (c := 5) (idx := 96) k_X5_isInstrument (by decide +kernel) cl_X5_isInstrument (by decide) rfl wd_1440 wd_1442 wd_25 (by decide) (e_sf_rec rfl))) (
  e_more (s_if_ne (off := 7) (by decide +kernel) (by decide)) (
  e_more (s_iconst (n := 1) (v := 1) (by decide +kernel) (by decide)) (
  e_more (s_goto (off := 18) (by decide +kernel) (by decide)) (
  e_more (s_iload_n (k := 2) (by decide +kernel) rfl) (
  e_more (s_iconst (n := 1) (v := 1) (by decide +kernel) (by decide)) (
  e_more (s_bipush (n := 9) (v := 9) (by decide +kernel) (by decide)) (
  e_more (e_call0 (s_callS (idx := 32) k_X5_in (by decide +kernel) cl_X5_in wd_1406 wd_1407 (by decide))) (
  e_more (s_if_ne (off := 7) (by decide +kernel) (by decide)) (
  e_more (s_iconst (n := 2) (v := 2) (by decide +kernel) (by decide)) (
  e_more (s_goto (off := 4) (by decide +kernel) (by decide)) (
  e_more (s_iconst (n := 0) (v := 0) (by decide +kernel) (by decide)) (
  e_more (e_call0 (s_callV (c := 5) (idx := 118) k_X5_holds (by decide +kernel) cl_X5_holds (by decide) rfl wd_1409 wd_1411 wd_20 (by decide) (e_sf_rec rfl))) (
  e_more (s_if_ne (off := 5) (by decide +kernel) (by decide)) (
  e_more (s_iconst (n := 0) (v := 0) (by decide +kernel) (by decide)) (
  e_more (s_jret (by decide +kernel) rfl) (
  e_more (s_aload_n (k := 0) (by decide +kernel) rfl) (
  e_more (e_call0 (s_callV (c := 5) (idx := 121) k_X5_save (by decide +kernel) cl_X5_save (by decide) rfl wd_1413 wd_1415 wd_21 (by decide) (e_sf_rec rfl))) (
  e_more (s_aload_n (k := 0) (by decide +kernel) rfl) (
  e_more (s_iload_n (k := 1) (by decide +kernel) rfl) (
  e_more (s_iload_n (k := 2) (by decide +kernel) rfl) (
  e_more (e_call0 (s_callV (c := 5) (idx := 92) k_X5_dents (by decide +kernel) cl_X5_dents (by decide) rfl wd_1484 wd_1486 wd_34 (by decide) (e_sf_rec rfl))) (
  e_more (s_aload_n (k := 0) (by decide +kernel) rfl) (
  e_more (s_iload_n (k := 1) (by decide +kernel) rfl) (
  e_more (s_iconst (n := 1) (v := 1) (by decide +kernel) (by decide)) (
  e_more (e_call0 (s_callV (c := 5) (idx := 43) k_X5_its (by decide +kernel) cl_X5_its (by decide) rfl wd_1452 wd_1454 wd_28 (by decide) (e_sf_rec rfl))) (
  e_more (s_jret (by decide +kernel) rfl) (
  e_no_more))))))))))))))))))))))))))))))
def w_X5_dent : eW := e_sf 13 (e_rn tb_X5_dent (iL i_X5_dent) 0 0)
theorem k_X5_dent : e_OK e_rf i_X5_dent 0 0 w_X5_dent := k_sf (k_rn (own := RX5) ⟨by decide +kernel, rfl⟩ st_X5_dent)
abbrev i_X5_mend : eI := (yX5_mend, cX5_mend, 2, (some .int), 3)
theorem cl_X5_mend : e_Cl i_X5_mend 1 := ⟨wd_1491, wd_82, ⟨by decide, by decide⟩, by decide +kernel, by decide⟩
def tb_X5_mend : eTb := [(0, t_ldO 0 1 0), (1, t_ldO 0 1 1), (2, t_ldI 1 1 2), (3, t_call0 2 w_X5_mendError 3), (6, t_call0 2 w_X5_holds 6), (9, t_ifn (fun a => a = 0) 14 9), (12, t_push (.inl 0) 1 12), (13, t_jret), (14, t_ldO 0 1 14), (15, t_call0 1 w_X5_save 15), (18, t_ldO 0 1 18), (19, t_ldI 1 1 19), (20, t_call0 2 w_X5_doMend 20), (23, t_jret)]
theorem st_X5_mend : ∀ x ∈ tb_X5_mend, e_Sd e_rf RX5 i_X5_mend x.1 x.2 :=
  e_more (s_aload_n (k := 0) (by decide +kernel) rfl) (
  e_more (s_aload_n (k := 0) (by decide +kernel) rfl) (
  e_more (s_iload_n (k := 1) (by decide +kernel) rfl) (
  e_more (e_call0 (s_callV (c := 5) (idx := 136) k_X5_mendError (by decide +kernel) cl_X5_mendError (by decide) rfl wd_1492 wd_1494 wd_35 (by decide) (e_sf_rec rfl))) (
  e_more (e_call0 (s_callV (c := 5) (idx := 118) k_X5_holds (by decide +kernel) cl_X5_holds (by decide) rfl wd_1409 wd_1411 wd_20 (by decide) (e_sf_rec rfl))) (
  e_more (s_if_ne (off := 5) (by decide +kernel) (by decide)) (
  e_more (s_iconst (n := 0) (v := 0) (by decide +kernel) (by decide)) (
  e_more (s_jret (by decide +kernel) rfl) (
  e_more (s_aload_n (k := 0) (by decide +kernel) rfl) (
  e_more (e_call0 (s_callV (c := 5) (idx := 121) k_X5_save (by decide +kernel) cl_X5_save (by decide) rfl wd_1413 wd_1415 wd_21 (by decide) (e_sf_rec rfl))) (
  e_more (s_aload_n (k := 0) (by decide +kernel) rfl) (
  e_more (s_iload_n (k := 1) (by decide +kernel) rfl) (
  e_more (e_call0 (s_callV (c := 5) (idx := 139) k_X5_doMend (by decide +kernel) cl_X5_doMend (by decide) rfl wd_1496 wd_1498 wd_36 (by decide) (e_sf_rec rfl))) (
  e_more (s_jret (by decide +kernel) rfl) (
  e_no_more))))))))))))))
def w_X5_mend : eW := e_sf 13 (e_rn tb_X5_mend (iL i_X5_mend) 0 0)
theorem k_X5_mend : e_OK e_rf i_X5_mend 0 0 w_X5_mend := k_sf (k_rn (own := RX5) ⟨by decide +kernel, rfl⟩ st_X5_mend)
abbrev i_X5_pay : eI := (yX5_pay, cX5_pay, 4, (some .int), 2)
theorem cl_X5_pay : e_Cl i_X5_pay 2 := ⟨wd_1503, wd_82, ⟨by decide, by decide⟩, by decide +kernel, by decide⟩
def tb_X5_pay_0 : eTb := [(0, t_ldO 0 1 0), (1, t_ldO 0 1 1), (2, t_ldI 1 1 2), (3, t_call0 2 w_X5_isPupil 3), (6, t_ifn (fun a => a = 0) 13 6), (9, t_push (.inl 1) 1 9), (10, t_goto 29), (13, t_ldI 2 1 13), (14, t_push (.inl 1) 1 14), (15, t_push (.inl 999) 3 15), (18, t_call0 3 w_X5_in 18), (21, t_ifn (fun a => a = 0) 28 21), (24, t_push (.inl 2) 1 24), (25, t_goto 29), (28, t_push (.inl 0) 1 28), (29, t_call0 2 w_X5_holds 29), (32, t_ifn (fun a => a = 0) 37 32), (35, t_push (.inl 0) 1 35), (36, t_jret), (37, t_ldO 0 1 37), (38, t_call0 1 w_X5_save 38), (41, t_ldI 2 1 41), (42, t_ldO 0 1 42), (43, t_ldI 1 1 43), (44, t_push (.inl 3) 1 44), (45, t_call0 3 w_X5_of 45), (48, t_ic (fun a b => b ≤ a) 55 48), (51, t_ldI 2 1 51), (52, t_goto 61), (55, t_ldO 0 1 55), (56, t_ldI 1 1 56), (57, t_push (.inl 3) 1 57), (58, t_call0 3 w_X5_of 58), (61, t_stI 3 1 61), (62, t_ldO 0 1 62), (63, t_ldI 1 1 63), (64, t_push (.inl 3) 1 64), (65, t_ldO 0 1 65), (66, t_ldI 1 1 66), (67, t_push (.inl 3) 1 67)]
theorem st_X5_pay_0 : ∀ x ∈ tb_X5_pay_0, e_Sd e_rf RX5 i_X5_pay x.1 x.2 :=
  e_more (s_aload_n (k := 0) (by decide +kernel) rfl) (
  e_more (s_aload_n (k := 0) (by decide +kernel) rfl) (
  e_more (s_iload_n (k := 1) (by decide +kernel) rfl) (
  e_more (e_call0 (s_callV (c := 5) (idx := 99) k_X5_isPupil (by decide +kernel) cl_X5_isPupil (by decide) rfl wd_1444 wd_1446 wd_26 (by decide) (e_sf_rec rfl))) (
  e_more (s_if_ne (off := 7) (by decide +kernel) (by decide)) (
  e_more (s_iconst (n := 1) (v := 1) (by decide +kernel) (by decide)) (
  e_more (s_goto (off := 19) (by decide +kernel) (by decide)) (
  e_more (s_iload_n (k := 2) (by decide +kernel) rfl) (
  e_more (s_iconst (n := 1) (v := 1) (by decide +kernel) (by decide)) (
  e_more (s_sipush (n := 999) (v := 999) (by decide +kernel) (by decide)) (
  e_more (e_call0 (s_callS (idx := 32) k_X5_in (by decide +kernel) cl_X5_in wd_1406 wd_1407 (by decide))) (
  e_more (s_if_ne (off := 7) (by decide +kernel) (by decide)) (
  e_more (s_iconst (n := 2) (v := 2) (by decide +kernel) (by decide)) (
  e_more (s_goto (off := 4) (by decide +kernel) (by decide)) (
  e_more (s_iconst (n := 0) (v := 0) (by decide +kernel) (by decide)) (
  e_more (e_call0 (s_callV (c := 5) (idx := 118) k_X5_holds (by decide +kernel) cl_X5_holds (by decide) rfl wd_1409 wd_1411 wd_20 (by decide) (e_sf_rec rfl))) (
  e_more (s_if_ne (off := 5) (by decide +kernel) (by decide)) (
  e_more (s_iconst (n := 0) (v := 0) (by decide +kernel) (by decide)) (
  e_more (s_jret (by decide +kernel) rfl) (
  e_more (s_aload_n (k := 0) (by decide +kernel) rfl) (
  e_more (e_call0 (s_callV (c := 5) (idx := 121) k_X5_save (by decide +kernel) cl_X5_save (by decide) rfl wd_1413 wd_1415 wd_21 (by decide) (e_sf_rec rfl))) (
  e_more (s_iload_n (k := 2) (by decide +kernel) rfl) (
  e_more (s_aload_n (k := 0) (by decide +kernel) rfl) (
  e_more (s_iload_n (k := 1) (by decide +kernel) rfl) (
  e_more (s_iconst (n := 3) (v := 3) (by decide +kernel) (by decide)) (
  e_more (e_call0 (s_callV (c := 5) (idx := 47) k_X5_of (by decide +kernel) cl_X5_of (by decide) rfl wd_1456 wd_1458 wd_29 (by decide) (e_sf_rec rfl))) (
  e_more (s_ic_ge (off := 7) (by decide +kernel) (by decide)) (
  e_more (s_iload_n (k := 2) (by decide +kernel) rfl) (
  e_more (s_goto (off := 9) (by decide +kernel) (by decide)) (
  e_more (s_aload_n (k := 0) (by decide +kernel) rfl) (
  e_more (s_iload_n (k := 1) (by decide +kernel) rfl) (
  e_more (s_iconst (n := 3) (v := 3) (by decide +kernel) (by decide)) (
  e_more (e_call0 (s_callV (c := 5) (idx := 47) k_X5_of (by decide +kernel) cl_X5_of (by decide) rfl wd_1456 wd_1458 wd_29 (by decide) (e_sf_rec rfl))) (
  e_more (s_istore_n (k := 3) (by decide +kernel) rfl (by decide)) (
  e_more (s_aload_n (k := 0) (by decide +kernel) rfl) (
  e_more (s_iload_n (k := 1) (by decide +kernel) rfl) (
  e_more (s_iconst (n := 3) (v := 3) (by decide +kernel) (by decide)) (
  e_more (s_aload_n (k := 0) (by decide +kernel) rfl) (
  e_more (s_iload_n (k := 1) (by decide +kernel) rfl) (
  e_more (s_iconst (n := 3) (v := 3) (by decide +kernel) (by decide)) (
  e_no_more))))))))))))))))))))))))))))))))))))))))
def tb_X5_pay_1 : eTb := [(68, t_call0 3 w_X5_of 68), (71, t_ldI 3 1 71), (72, t_ii (fun a b => a - b) 72), (73, t_call0 4 w_X5_put 73), (76, t_ldO 0 1 76), (77, t_getR e_rf 5 0 77), (80, t_push (.inl 10) 2 80), (82, t_dup2 82), (83, t_iald 83), (84, t_ldI 3 1 84), (85, t_ii (fun a b => a + b) 85), (86, t_iast 86), (87, t_ldO 0 1 87), (88, t_getR e_rf 5 0 88), (91, t_push (.inl 8) 2 91), (93, t_dup2 93), (94, t_iald 94), (95, t_ldI 3 1 95), (96, t_ii (fun a b => a + b) 96), (97, t_iast 97), (98, t_ldI 3 1 98), (99, t_jret)]
theorem st_X5_pay_1 : ∀ x ∈ tb_X5_pay_1, e_Sd e_rf RX5 i_X5_pay x.1 x.2 :=
  e_more (e_call0 (s_callV (c := 5) (idx := 47) k_X5_of (by decide +kernel) cl_X5_of (by decide) rfl wd_1456 wd_1458 wd_29 (by decide) (e_sf_rec rfl))) (
  e_more (s_iload_n (k := 3) (by decide +kernel) rfl) (
  e_more (s_isub (by decide +kernel)) (
  e_more (e_call0 (s_callV (c := 5) (idx := 83) k_X5_put (by decide +kernel) cl_X5_put (by decide) rfl wd_1420 wd_1422 wd_22 (by decide) (e_sf_rec rfl))) (
  e_more (s_aload_n (k := 0) (by decide +kernel) rfl) (
  e_more (s_getR (c := 5) (j := 0) (idx := 7) (by decide +kernel) (by decide) (by decide) rfl wd_1349) (
  e_more (s_bipush (n := 10) (v := 10) (by decide +kernel) (by decide)) (
  e_more (s_dup2 (by decide +kernel)) (
  e_more (s_iald (by decide +kernel)) (
  e_more (s_iload_n (k := 3) (by decide +kernel) rfl) (
  e_more (s_iadd (by decide +kernel)) (
  e_more (s_iast (by decide +kernel)) (
  e_more (s_aload_n (k := 0) (by decide +kernel) rfl) (
  e_more (s_getR (c := 5) (j := 0) (idx := 7) (by decide +kernel) (by decide) (by decide) rfl wd_1349) (
  e_more (s_bipush (n := 8) (v := 8) (by decide +kernel) (by decide)) (
  e_more (s_dup2 (by decide +kernel)) (
  e_more (s_iald (by decide +kernel)) (
  e_more (s_iload_n (k := 3) (by decide +kernel) rfl) (
  e_more (s_iadd (by decide +kernel)) (
  e_more (s_iast (by decide +kernel)) (
  e_more (s_iload_n (k := 3) (by decide +kernel) rfl) (
  e_more (s_jret (by decide +kernel) rfl) (
  e_no_more))))))))))))))))))))))
def tb_X5_pay : eTb := tb_X5_pay_0 ++ tb_X5_pay_1
theorem st_X5_pay : ∀ x ∈ tb_X5_pay, e_Sd e_rf RX5 i_X5_pay x.1 x.2 := e_app (st_X5_pay_0) st_X5_pay_1
def w_X5_pay : eW := e_sf 13 (e_rn tb_X5_pay (iL i_X5_pay) 0 0)
theorem k_X5_pay : e_OK e_rf i_X5_pay 0 0 w_X5_pay := k_sf (k_rn (own := RX5) ⟨by decide +kernel, rfl⟩ st_X5_pay)
abbrev i_X5_set : eI := (yX5_set, cX5_set, 5, (some .int), 2)
theorem cl_X5_set : e_Cl i_X5_set 2 := ⟨wd_1507, wd_82, ⟨by decide, by decide⟩, by decide +kernel, by decide⟩
def tb_X5_set_0 : eTb := [(0, t_ldI 2 1 0), (1, t_push (.inl 0) 1 1), (2, t_ldI 1 1 2), (3, t_ifn (fun a => a = 0) 11 3), (6, t_push (.inl 50) 2 6), (8, t_goto 24), (11, t_ldI 1 1 11), (12, t_push (.inl 1) 1 12), (13, t_icn (fun a b => a = b) 22 13), (16, t_push (.inl 200) 3 16), (19, t_goto 24), (22, t_push (.inl 99) 2 22), (24, t_call0 3 w_X5_in 24), (27, t_stI 3 1 27), (28, t_ldO 0 1 28), (29, t_ldI 1 1 29), (30, t_push (.inl 0) 1 30), (31, t_push (.inl 2) 1 31), (32, t_call0 3 w_X5_in 32), (35, t_ifn (fun a => a = 0) 42 35), (38, t_push (.inl 1) 1 38), (39, t_goto 51), (42, t_ldI 3 1 42), (43, t_ifn (fun a => a = 0) 50 43), (46, t_push (.inl 2) 1 46), (47, t_goto 51), (50, t_push (.inl 0) 1 50), (51, t_call0 2 w_X5_holds 51), (54, t_ifn (fun a => a = 0) 59 54), (57, t_push (.inl 0) 1 57), (58, t_jret), (59, t_ldO 0 1 59), (60, t_call0 1 w_X5_save 60), (63, t_ldO 0 1 63), (64, t_getR e_rf 5 0 64), (67, t_push (.inl 13) 2 67), (69, t_ldI 1 1 69), (70, t_ii (fun a b => a + b) 70), (71, t_iald 71), (72, t_stI 4 2 72)]
theorem st_X5_set_0 : ∀ x ∈ tb_X5_set_0, e_Sd e_rf RX5 i_X5_set x.1 x.2 :=
  e_more (s_iload_n (k := 2) (by decide +kernel) rfl) (
  e_more (s_iconst (n := 0) (v := 0) (by decide +kernel) (by decide)) (
  e_more (s_iload_n (k := 1) (by decide +kernel) rfl) (
  e_more (s_if_ne (off := 8) (by decide +kernel) (by decide)) (
  e_more (s_bipush (n := 50) (v := 50) (by decide +kernel) (by decide)) (
  e_more (s_goto (off := 16) (by decide +kernel) (by decide)) (
  e_more (s_iload_n (k := 1) (by decide +kernel) rfl) (
  e_more (s_iconst (n := 1) (v := 1) (by decide +kernel) (by decide)) (
  e_more (s_ic_ne (off := 9) (by decide +kernel) (by decide)) (
  e_more (s_sipush (n := 200) (v := 200) (by decide +kernel) (by decide)) (
  e_more (s_goto (off := 5) (by decide +kernel) (by decide)) (
  e_more (s_bipush (n := 99) (v := 99) (by decide +kernel) (by decide)) (
  e_more (e_call0 (s_callS (idx := 32) k_X5_in (by decide +kernel) cl_X5_in wd_1406 wd_1407 (by decide))) (
  e_more (s_istore_n (k := 3) (by decide +kernel) rfl (by decide)) (
  e_more (s_aload_n (k := 0) (by decide +kernel) rfl) (
  e_more (s_iload_n (k := 1) (by decide +kernel) rfl) (
  e_more (s_iconst (n := 0) (v := 0) (by decide +kernel) (by decide)) (
  e_more (s_iconst (n := 2) (v := 2) (by decide +kernel) (by decide)) (
  e_more (e_call0 (s_callS (idx := 32) k_X5_in (by decide +kernel) cl_X5_in wd_1406 wd_1407 (by decide))) (
  e_more (s_if_ne (off := 7) (by decide +kernel) (by decide)) (
  e_more (s_iconst (n := 1) (v := 1) (by decide +kernel) (by decide)) (
  e_more (s_goto (off := 12) (by decide +kernel) (by decide)) (
  e_more (s_iload_n (k := 3) (by decide +kernel) rfl) (
  e_more (s_if_ne (off := 7) (by decide +kernel) (by decide)) (
  e_more (s_iconst (n := 2) (v := 2) (by decide +kernel) (by decide)) (
  e_more (s_goto (off := 4) (by decide +kernel) (by decide)) (
  e_more (s_iconst (n := 0) (v := 0) (by decide +kernel) (by decide)) (
  e_more (e_call0 (s_callV (c := 5) (idx := 118) k_X5_holds (by decide +kernel) cl_X5_holds (by decide) rfl wd_1409 wd_1411 wd_20 (by decide) (e_sf_rec rfl))) (
  e_more (s_if_ne (off := 5) (by decide +kernel) (by decide)) (
  e_more (s_iconst (n := 0) (v := 0) (by decide +kernel) (by decide)) (
  e_more (s_jret (by decide +kernel) rfl) (
  e_more (s_aload_n (k := 0) (by decide +kernel) rfl) (
  e_more (e_call0 (s_callV (c := 5) (idx := 121) k_X5_save (by decide +kernel) cl_X5_save (by decide) rfl wd_1413 wd_1415 wd_21 (by decide) (e_sf_rec rfl))) (
  e_more (s_aload_n (k := 0) (by decide +kernel) rfl) (
  e_more (s_getR (c := 5) (j := 0) (idx := 7) (by decide +kernel) (by decide) (by decide) rfl wd_1349) (
  e_more (s_bipush (n := 13) (v := 13) (by decide +kernel) (by decide)) (
  e_more (s_iload_n (k := 1) (by decide +kernel) rfl) (
  e_more (s_iadd (by decide +kernel)) (
  e_more (s_iald (by decide +kernel)) (
  e_more (s_istore (by decide +kernel) (by decide)) (
  e_no_more))))))))))))))))))))))))))))))))))))))))
def tb_X5_set_1 : eTb := [(74, t_ldO 0 1 74), (75, t_getR e_rf 5 0 75), (78, t_push (.inl 13) 2 78), (80, t_ldI 1 1 80), (81, t_ii (fun a b => a + b) 81), (82, t_ldI 2 1 82), (83, t_iast 83), (84, t_ldI 4 2 84), (86, t_jret)]
theorem st_X5_set_1 : ∀ x ∈ tb_X5_set_1, e_Sd e_rf RX5 i_X5_set x.1 x.2 :=
  e_more (s_aload_n (k := 0) (by decide +kernel) rfl) (
  e_more (s_getR (c := 5) (j := 0) (idx := 7) (by decide +kernel) (by decide) (by decide) rfl wd_1349) (
  e_more (s_bipush (n := 13) (v := 13) (by decide +kernel) (by decide)) (
  e_more (s_iload_n (k := 1) (by decide +kernel) rfl) (
  e_more (s_iadd (by decide +kernel)) (
  e_more (s_iload_n (k := 2) (by decide +kernel) rfl) (
  e_more (s_iast (by decide +kernel)) (
  e_more (s_iload (by decide +kernel)) (
  e_more (s_jret (by decide +kernel) rfl) (
  e_no_more)))))))))
def tb_X5_set : eTb := tb_X5_set_0 ++ tb_X5_set_1
theorem st_X5_set : ∀ x ∈ tb_X5_set, e_Sd e_rf RX5 i_X5_set x.1 x.2 := e_app (st_X5_set_0) st_X5_set_1
def w_X5_set : eW := e_sf 13 (e_rn tb_X5_set (iL i_X5_set) 0 0)
theorem k_X5_set : e_OK e_rf i_X5_set 0 0 w_X5_set := k_sf (k_rn (own := RX5) ⟨by decide +kernel, rfl⟩ st_X5_set)
abbrev i_X5_pass : eI := (yX5_pass, cX5_pass, 2, (some .int), 2)
theorem cl_X5_pass : e_Cl i_X5_pass 1 := ⟨wd_1511, wd_82, ⟨by decide, by decide⟩, by decide +kernel, by decide⟩
def tb_X5_pass : eTb := [(0, t_ldO 0 1 0), (1, t_ldI 1 1 1), (2, t_push (.inl 1) 1 2), (3, t_push (.inl 30) 2 3), (5, t_call0 3 w_X5_in 5), (8, t_if (fun a => a = 0) 15 8), (11, t_push (.inl 0) 1 11), (12, t_goto 16), (15, t_push (.inl 1) 1 15), (16, t_call0 2 w_X5_holds 16), (19, t_ifn (fun a => a = 0) 24 19), (22, t_push (.inl 0) 1 22), (23, t_jret), (24, t_ldO 0 1 24), (25, t_call0 1 w_X5_save 25), (28, t_ldO 0 1 28), (29, t_ldI 1 1 29), (30, t_call0 2 w_X5_doPass 30), (33, t_jret)]
theorem st_X5_pass : ∀ x ∈ tb_X5_pass, e_Sd e_rf RX5 i_X5_pass x.1 x.2 :=
  e_more (s_aload_n (k := 0) (by decide +kernel) rfl) (
  e_more (s_iload_n (k := 1) (by decide +kernel) rfl) (
  e_more (s_iconst (n := 1) (v := 1) (by decide +kernel) (by decide)) (
  e_more (s_bipush (n := 30) (v := 30) (by decide +kernel) (by decide)) (
  e_more (e_call0 (s_callS (idx := 32) k_X5_in (by decide +kernel) cl_X5_in wd_1406 wd_1407 (by decide))) (
  e_more (s_if_eq (off := 7) (by decide +kernel) (by decide)) (
  e_more (s_iconst (n := 0) (v := 0) (by decide +kernel) (by decide)) (
  e_more (s_goto (off := 4) (by decide +kernel) (by decide)) (
  e_more (s_iconst (n := 1) (v := 1) (by decide +kernel) (by decide)) (
  e_more (e_call0 (s_callV (c := 5) (idx := 118) k_X5_holds (by decide +kernel) cl_X5_holds (by decide) rfl wd_1409 wd_1411 wd_20 (by decide) (e_sf_rec rfl))) (
  e_more (s_if_ne (off := 5) (by decide +kernel) (by decide)) (
  e_more (s_iconst (n := 0) (v := 0) (by decide +kernel) (by decide)) (
  e_more (s_jret (by decide +kernel) rfl) (
  e_more (s_aload_n (k := 0) (by decide +kernel) rfl) (
  e_more (e_call0 (s_callV (c := 5) (idx := 121) k_X5_save (by decide +kernel) cl_X5_save (by decide) rfl wd_1413 wd_1415 wd_21 (by decide) (e_sf_rec rfl))) (
  e_more (s_aload_n (k := 0) (by decide +kernel) rfl) (
  e_more (s_iload_n (k := 1) (by decide +kernel) rfl) (
  e_more (e_call0 (s_callV (c := 5) (idx := 142) k_X5_doPass (by decide +kernel) cl_X5_doPass (by decide) rfl wd_1512 wd_1514 wd_37 (by decide) (e_sf_rec rfl))) (
  e_more (s_jret (by decide +kernel) rfl) (
  e_no_more)))))))))))))))))))
def w_X5_pass : eW := e_sf 13 (e_rn tb_X5_pass (iL i_X5_pass) 0 0)
theorem k_X5_pass : e_OK e_rf i_X5_pass 0 0 w_X5_pass := k_sf (k_rn (own := RX5) ⟨by decide +kernel, rfl⟩ st_X5_pass)
abbrev i_X5_teach : eI := (yX5_teach, cX5_teach, 3, (some .int), 5)
theorem cl_X5_teach : e_Cl i_X5_teach 2 := ⟨wd_1519, wd_82, ⟨by decide, by decide⟩, by decide +kernel, by decide⟩
def tb_X5_teach : eTb := [(0, t_ldO 0 1 0), (1, t_ldO 0 1 1), (2, t_ldI 1 1 2), (3, t_ldI 2 1 3), (4, t_call0 3 w_X5_teachError 4), (7, t_call0 2 w_X5_holds 7), (10, t_ifn (fun a => a = 0) 15 10), (13, t_push (.inl 0) 1 13), (14, t_jret), (15, t_ldO 0 1 15), (16, t_call0 1 w_X5_save 16), (19, t_ldO 0 1 19), (20, t_ldI 1 1 20), (21, t_ldI 2 1 21), (22, t_call0 3 w_X5_doTeach 22), (25, t_jret)]
theorem st_X5_teach : ∀ x ∈ tb_X5_teach, e_Sd e_rf RX5 i_X5_teach x.1 x.2 :=
  e_more (s_aload_n (k := 0) (by decide +kernel) rfl) (
  e_more (s_aload_n (k := 0) (by decide +kernel) rfl) (
  e_more (s_iload_n (k := 1) (by decide +kernel) rfl) (
  e_more (s_iload_n (k := 2) (by decide +kernel) rfl) (
  e_more (e_call0 (s_callV (c := 5) (idx := 145) k_X5_teachError (by decide +kernel) cl_X5_teachError (by decide) rfl wd_1520 wd_1522 wd_38 (by decide) (e_sf_rec rfl))) (
  e_more (e_call0 (s_callV (c := 5) (idx := 118) k_X5_holds (by decide +kernel) cl_X5_holds (by decide) rfl wd_1409 wd_1411 wd_20 (by decide) (e_sf_rec rfl))) (
  e_more (s_if_ne (off := 5) (by decide +kernel) (by decide)) (
  e_more (s_iconst (n := 0) (v := 0) (by decide +kernel) (by decide)) (
  e_more (s_jret (by decide +kernel) rfl) (
  e_more (s_aload_n (k := 0) (by decide +kernel) rfl) (
  e_more (e_call0 (s_callV (c := 5) (idx := 121) k_X5_save (by decide +kernel) cl_X5_save (by decide) rfl wd_1413 wd_1415 wd_21 (by decide) (e_sf_rec rfl))) (
  e_more (s_aload_n (k := 0) (by decide +kernel) rfl) (
  e_more (s_iload_n (k := 1) (by decide +kernel) rfl) (
  e_more (s_iload_n (k := 2) (by decide +kernel) rfl) (
  e_more (e_call0 (s_callV (c := 5) (idx := 148) k_X5_doTeach (by decide +kernel) cl_X5_doTeach (by decide) rfl wd_1542 wd_1544 wd_42 (by decide) (e_sf_rec rfl))) (
  e_more (s_jret (by decide +kernel) rfl) (
  e_no_more))))))))))))))))
def w_X5_teach : eW := e_sf 13 (e_rn tb_X5_teach (iL i_X5_teach) 0 0)
theorem k_X5_teach : e_OK e_rf i_X5_teach 0 0 w_X5_teach := k_sf (k_rn (own := RX5) ⟨by decide +kernel, rfl⟩ st_X5_teach)
