/-! the reference, piece 5: tables and readings, by program. Own work. -/
abbrev i_X5_mix : eI := (yX5_mix, cX5_mix, 3, none, 0)
theorem cl_X5_mix : e_Cl i_X5_mix 1 := ⟨wd_1776, wd_82, ⟨by decide, by decide⟩, by decide +kernel, by decide⟩
def tb_X5_mix : eTb := [(0, t_ldO 0 1 0), (1, t_push (.inr (.inl 31)) 3 1), (4, t_ldO 0 1 4), (5, t_getL 5 15 5), (8, t_ll (fun a b => .inr (.inl (a * b))) 8), (9, t_ldL 1 1 9), (10, t_ll (fun a b => .inr (.inl (a + b))) 10), (11, t_putL 5 15 11), (14, t_ret)]
theorem st_X5_mix : ∀ x ∈ tb_X5_mix, e_Sd e_rf RX5 i_X5_mix x.1 x.2 :=
  e_more (s_aload_n (k := 0) (by decide +kernel) rfl) (
  e_more (s_ldc2 (i := 275) (v := 31) (by decide +kernel) wd_1777) (
  e_more (s_aload_n (k := 0) (by decide +kernel) rfl) (
  e_more (s_getL (c := 5) (j := 15) (idx := 277) (by decide +kernel) (by decide) (by decide) rfl wd_1364) (
  e_more (s_lmul (by decide +kernel)) (
  e_more (s_lload_n (k := 1) (by decide +kernel) rfl) (
  e_more (s_ladd (by decide +kernel)) (
  e_more (s_putL (c := 5) (j := 15) (idx := 277) (by decide +kernel) (by decide) (by decide) rfl rfl wd_1364) (
  e_more (s_ret (by decide +kernel) rfl) (
  e_no_more)))))))))
def w_X5_mix : eW := e_sf 13 (e_rn tb_X5_mix (iL i_X5_mix) 0 0)
theorem k_X5_mix : e_OK e_rf i_X5_mix 0 0 w_X5_mix := k_sf (k_rn (own := RX5) ⟨by decide +kernel, rfl⟩ st_X5_mix)
abbrev i_X5_mixMarch : eI := (yX5_mixMarch, cX5_mixMarch, 3, none, 6)
theorem cl_X5_mixMarch : e_Cl i_X5_mixMarch 1 := ⟨wd_1781, wd_82, ⟨by decide, by decide⟩, by decide +kernel, by decide⟩
def tb_X5_mixMarch : eTb := [(0, t_ldO 0 1 0), (1, t_ldO 0 1 1), (2, t_ldI 1 1 2), (3, t_call0 2 w_X5_lineUp 3), (6, t_i1 (fun a => .inr (.inl a.toInt64)) 6), (7, t_call0 2 w_X5_mix 7), (10, t_ldO 0 1 10), (11, t_ldO 0 1 11), (12, t_ldI 1 1 12), (13, t_call0 2 w_X5_mostTold 13), (16, t_i1 (fun a => .inr (.inl a.toInt64)) 16), (17, t_call0 2 w_X5_mix 17), (20, t_ldO 0 1 20), (21, t_ldO 0 1 21), (22, t_ldI 1 1 22), (23, t_push (.inl 2) 1 23), (24, t_call0 3 w_X5_helpsTold 24), (27, t_i1 (fun a => .inr (.inl a.toInt64)) 27), (28, t_call0 2 w_X5_mix 28), (31, t_push (.inl 0) 1 31), (32, t_stI 2 1 32), (33, t_ldO 0 1 33), (34, t_ldI 1 1 34), (35, t_ldI 2 1 35), (36, t_call0 3 w_X5_charOf 36), (39, t_push (.inl (-1)) 1 39), (40, t_ic (fun a b => a = b) 60 40), (43, t_ldO 0 1 43), (44, t_ldO 0 1 44), (45, t_ldI 1 1 45), (46, t_ldI 2 1 46), (47, t_call0 3 w_X5_charOf 47), (50, t_i1 (fun a => .inr (.inl a.toInt64)) 50), (51, t_call0 2 w_X5_mix 51), (54, t_iinc 2 1 54), (57, t_goto 33), (60, t_ret)]
theorem st_X5_mixMarch : ∀ x ∈ tb_X5_mixMarch, e_Sd e_rf RX5 i_X5_mixMarch x.1 x.2 :=
  e_more (s_aload_n (k := 0) (by decide +kernel) rfl) (
  e_more (s_aload_n (k := 0) (by decide +kernel) rfl) (
  e_more (s_iload_n (k := 1) (by decide +kernel) rfl) (
  e_more (e_call0 (s_callV (c := 5) (idx := 76) k_X5_lineUp (by decide +kernel) cl_X5_lineUp (by decide) rfl wd_1572 wd_1574 wd_47 (by decide) (e_sf_rec rfl))) (
  e_more (s_i2l (by decide +kernel)) (
  e_more (e_call0 (s_callV (c := 5) (idx := 281) k_X5_mix (by decide +kernel) cl_X5_mix (by decide) rfl wd_1773 wd_1775 wd_70 (by decide) (e_sf_rec rfl))) (
  e_more (s_aload_n (k := 0) (by decide +kernel) rfl) (
  e_more (s_aload_n (k := 0) (by decide +kernel) rfl) (
  e_more (s_iload_n (k := 1) (by decide +kernel) rfl) (
  e_more (e_call0 (s_callV (c := 5) (idx := 254) k_X5_mostTold (by decide +kernel) cl_X5_mostTold (by decide) rfl wd_1733 wd_1735 wd_65 (by decide) (e_sf_rec rfl))) (
  e_more (s_i2l (by decide +kernel)) (
  e_more (e_call0 (s_callV (c := 5) (idx := 281) k_X5_mix (by decide +kernel) cl_X5_mix (by decide) rfl wd_1773 wd_1775 wd_70 (by decide) (e_sf_rec rfl))) (
  e_more (s_aload_n (k := 0) (by decide +kernel) rfl) (
  e_more (s_aload_n (k := 0) (by decide +kernel) rfl) (
  e_more (s_iload_n (k := 1) (by decide +kernel) rfl) (
  e_more (s_iconst (n := 2) (v := 2) (by decide +kernel) (by decide)) (
  e_more (e_call0 (s_callV (c := 5) (idx := 260) k_X5_helpsTold (by decide +kernel) cl_X5_helpsTold (by decide) rfl wd_1756 wd_1758 wd_68 (by decide) (e_sf_rec rfl))) (
  e_more (s_i2l (by decide +kernel)) (
  e_more (e_call0 (s_callV (c := 5) (idx := 281) k_X5_mix (by decide +kernel) cl_X5_mix (by decide) rfl wd_1773 wd_1775 wd_70 (by decide) (e_sf_rec rfl))) (
  e_more (s_iconst (n := 0) (v := 0) (by decide +kernel) (by decide)) (
  e_more (s_istore_n (k := 2) (by decide +kernel) rfl (by decide)) (
  e_more (s_aload_n (k := 0) (by decide +kernel) rfl) (
  e_more (s_iload_n (k := 1) (by decide +kernel) rfl) (
  e_more (s_iload_n (k := 2) (by decide +kernel) rfl) (
  e_more (e_call0 (s_callV (c := 5) (idx := 221) k_X5_charOf (by decide +kernel) cl_X5_charOf (by decide) rfl wd_1645 wd_1647 wd_58 (by decide) (e_sf_rec rfl))) (
  e_more (s_iconst (n := (-1)) (v := (-1)) (by decide +kernel) (by decide)) (
  e_more (s_ic_eq (off := 20) (by decide +kernel) (by decide)) (
  e_more (s_aload_n (k := 0) (by decide +kernel) rfl) (
  e_more (s_aload_n (k := 0) (by decide +kernel) rfl) (
  e_more (s_iload_n (k := 1) (by decide +kernel) rfl) (
  e_more (s_iload_n (k := 2) (by decide +kernel) rfl) (
  e_more (e_call0 (s_callV (c := 5) (idx := 221) k_X5_charOf (by decide +kernel) cl_X5_charOf (by decide) rfl wd_1645 wd_1647 wd_58 (by decide) (e_sf_rec rfl))) (
  e_more (s_i2l (by decide +kernel)) (
  e_more (e_call0 (s_callV (c := 5) (idx := 281) k_X5_mix (by decide +kernel) cl_X5_mix (by decide) rfl wd_1773 wd_1775 wd_70 (by decide) (e_sf_rec rfl))) (
  e_more (s_iinc (z := 1) (n := 1) (by decide +kernel) (by decide) (by decide)) (
  e_more (s_goto (off := (-24)) (by decide +kernel) (by decide)) (
  e_more (s_ret (by decide +kernel) rfl) (
  e_no_more)))))))))))))))))))))))))))))))))))))
def w_X5_mixMarch : eW := e_sf 13 (e_rn tb_X5_mixMarch (iL i_X5_mixMarch) 0 0)
theorem k_X5_mixMarch : e_OK e_rf i_X5_mixMarch 0 0 w_X5_mixMarch := k_sf (k_rn (own := RX5) ⟨by decide +kernel, rfl⟩ st_X5_mixMarch)
abbrev i_X5_digest : eI := (yX5_digest, cX5_digest, 2, (some .long), 7)
theorem cl_X5_digest : e_Cl i_X5_digest 0 := ⟨wd_1771, wd_82, ⟨by decide, by decide⟩, by decide +kernel, by decide⟩
def tb_X5_digest_0 : eTb := [(0, t_ldO 0 1 0), (1, t_push (.inl 0) 1 1), (2, t_putI 5 8 2), (5, t_ldO 0 1 5), (6, t_push (.inr (.inl 3733)) 3 6), (9, t_putL 5 15 9), (12, t_push (.inl 0) 1 12), (13, t_stI 1 1 13), (14, t_ldI 1 1 14), (15, t_push (.inl 19) 2 15), (17, t_ic (fun a b => b ≤ a) 36 17), (20, t_ldO 0 1 20), (21, t_ldO 0 1 21), (22, t_ldI 1 1 22), (23, t_call0 2 w_X5_countTold 23), (26, t_i1 (fun a => .inr (.inl a.toInt64)) 26), (27, t_call0 2 w_X5_mix 27), (30, t_iinc 1 1 30), (33, t_goto 14), (36, t_push (.inl 0) 1 36), (37, t_stI 1 1 37), (38, t_ldI 1 1 38), (39, t_push (.inl 10) 2 39), (41, t_ldO 0 1 41), (42, t_getR e_rf 5 0 42), (45, t_ialc 0 1 45), (47, t_ii (fun a b => a * b) 47), (48, t_ic (fun a b => b ≤ a) 102 48), (51, t_ldO 0 1 51), (52, t_ldI 1 1 52), (53, t_push (.inl 10) 2 53), (55, t_idv (fun a b => a - a / b * b) 55), (56, t_push (.inl 7) 2 56), (58, t_ic (fun a b => b ≤ a) 77 58), (61, t_ldO 0 1 61), (62, t_ldI 1 1 62), (63, t_push (.inl 10) 2 63), (65, t_idv (fun a b => a / b) 65), (66, t_ldI 1 1 66), (67, t_push (.inl 10) 2 67)]
theorem st_X5_digest_0 : ∀ x ∈ tb_X5_digest_0, e_Sd e_rf RX5 i_X5_digest x.1 x.2 :=
  e_more (s_aload_n (k := 0) (by decide +kernel) rfl) (
  e_more (s_iconst (n := 0) (v := 0) (by decide +kernel) (by decide)) (
  e_more (s_putI (c := 5) (j := 8) (idx := 28) (by decide +kernel) (by decide) (by decide) rfl rfl wd_1357) (
  e_more (s_aload_n (k := 0) (by decide +kernel) rfl) (
  e_more (s_ldc2 (i := 285) (v := 3733) (by decide +kernel) wd_1772) (
  e_more (s_putL (c := 5) (j := 15) (idx := 277) (by decide +kernel) (by decide) (by decide) rfl rfl wd_1364) (
  e_more (s_iconst (n := 0) (v := 0) (by decide +kernel) (by decide)) (
  e_more (s_istore_n (k := 1) (by decide +kernel) rfl (by decide)) (
  e_more (s_iload_n (k := 1) (by decide +kernel) rfl) (
  e_more (s_bipush (n := 19) (v := 19) (by decide +kernel) (by decide)) (
  e_more (s_ic_ge (off := 19) (by decide +kernel) (by decide)) (
  e_more (s_aload_n (k := 0) (by decide +kernel) rfl) (
  e_more (s_aload_n (k := 0) (by decide +kernel) rfl) (
  e_more (s_iload_n (k := 1) (by decide +kernel) rfl) (
  e_more (e_call0 (s_callV (c := 5) (idx := 245) k_X5_countTold (by decide +kernel) cl_X5_countTold (by decide) rfl wd_1708 wd_1710 wd_63 (by decide) (e_sf_rec rfl))) (
  e_more (s_i2l (by decide +kernel)) (
  e_more (e_call0 (s_callV (c := 5) (idx := 281) k_X5_mix (by decide +kernel) cl_X5_mix (by decide) rfl wd_1773 wd_1775 wd_70 (by decide) (e_sf_rec rfl))) (
  e_more (s_iinc (z := 1) (n := 1) (by decide +kernel) (by decide) (by decide)) (
  e_more (s_goto (off := (-19)) (by decide +kernel) (by decide)) (
  e_more (s_iconst (n := 0) (v := 0) (by decide +kernel) (by decide)) (
  e_more (s_istore_n (k := 1) (by decide +kernel) rfl (by decide)) (
  e_more (s_iload_n (k := 1) (by decide +kernel) rfl) (
  e_more (s_bipush (n := 10) (v := 10) (by decide +kernel) (by decide)) (
  e_more (s_aload_n (k := 0) (by decide +kernel) rfl) (
  e_more (s_getR (c := 5) (j := 0) (idx := 7) (by decide +kernel) (by decide) (by decide) rfl wd_1349) (
  e_more (s_ialc (n := 0) (x := 0) (s_iconst (n := 0) (v := 0) (by decide +kernel) (by decide)) (by decide +kernel) (by decide) (by decide)) (
  e_more (s_imul (by decide +kernel)) (
  e_more (s_ic_ge (off := 54) (by decide +kernel) (by decide)) (
  e_more (s_aload_n (k := 0) (by decide +kernel) rfl) (
  e_more (s_iload_n (k := 1) (by decide +kernel) rfl) (
  e_more (s_bipush (n := 10) (v := 10) (by decide +kernel) (by decide)) (
  e_more (s_irem (by decide +kernel)) (
  e_more (s_bipush (n := 7) (v := 7) (by decide +kernel) (by decide)) (
  e_more (s_ic_ge (off := 19) (by decide +kernel) (by decide)) (
  e_more (s_aload_n (k := 0) (by decide +kernel) rfl) (
  e_more (s_iload_n (k := 1) (by decide +kernel) rfl) (
  e_more (s_bipush (n := 10) (v := 10) (by decide +kernel) (by decide)) (
  e_more (s_idiv (by decide +kernel)) (
  e_more (s_iload_n (k := 1) (by decide +kernel) rfl) (
  e_more (s_bipush (n := 10) (v := 10) (by decide +kernel) (by decide)) (
  e_no_more))))))))))))))))))))))))))))))))))))))))
def tb_X5_digest_1 : eTb := [(69, t_idv (fun a b => a - a / b * b) 69), (70, t_call0 3 w_X5_pupilTold 70), (73, t_i1 (fun a => .inr (.inl a.toInt64)) 73), (74, t_goto 93), (77, t_ldO 0 1 77), (78, t_ldI 1 1 78), (79, t_push (.inl 10) 2 79), (81, t_idv (fun a b => a / b) 81), (82, t_ldI 1 1 82), (83, t_push (.inl 10) 2 83), (85, t_idv (fun a b => a - a / b * b) 85), (86, t_push (.inl 7) 2 86), (88, t_ii (fun a b => a - b) 88), (89, t_call0 3 w_X5_reasonOfLesson 89), (92, t_i1 (fun a => .inr (.inl a.toInt64)) 92), (93, t_call0 2 w_X5_mix 93), (96, t_iinc 1 1 96), (99, t_goto 38), (102, t_push (.inl 0) 1 102), (103, t_stI 1 1 103), (104, t_ldI 1 1 104), (105, t_push (.inl 6) 2 105), (107, t_ldO 0 1 107), (108, t_getR e_rf 5 0 108), (111, t_ialc 1 1 111), (113, t_ii (fun a b => a * b) 113), (114, t_ic (fun a b => b ≤ a) 140 114), (117, t_ldO 0 1 117), (118, t_ldO 0 1 118), (119, t_ldI 1 1 119), (120, t_push (.inl 6) 2 120), (122, t_idv (fun a b => a / b) 122), (123, t_ldI 1 1 123), (124, t_push (.inl 6) 2 124), (126, t_idv (fun a b => a - a / b * b) 126), (127, t_call0 3 w_X5_instrumentTold 127), (130, t_i1 (fun a => .inr (.inl a.toInt64)) 130), (131, t_call0 2 w_X5_mix 131), (134, t_iinc 1 1 134), (137, t_goto 104)]
theorem st_X5_digest_1 : ∀ x ∈ tb_X5_digest_1, e_Sd e_rf RX5 i_X5_digest x.1 x.2 :=
  e_more (s_irem (by decide +kernel)) (
  e_more (e_call0 (s_callV (c := 5) (idx := 228) k_X5_pupilTold (by decide +kernel) cl_X5_pupilTold (by decide) rfl wd_1676 wd_1678 wd_59 (by decide) (e_sf_rec rfl))) (
  e_more (s_i2l (by decide +kernel)) (
  e_more (s_goto (off := 19) (by decide +kernel) (by decide)) (
  e_more (s_aload_n (k := 0) (by decide +kernel) rfl) (
  e_more (s_iload_n (k := 1) (by decide +kernel) rfl) (
  e_more (s_bipush (n := 10) (v := 10) (by decide +kernel) (by decide)) (
  e_more (s_idiv (by decide +kernel)) (
  e_more (s_iload_n (k := 1) (by decide +kernel) rfl) (
  e_more (s_bipush (n := 10) (v := 10) (by decide +kernel) (by decide)) (
  e_more (s_irem (by decide +kernel)) (
  e_more (s_bipush (n := 7) (v := 7) (by decide +kernel) (by decide)) (
  e_more (s_isub (by decide +kernel)) (
  e_more (e_call0 (s_callV (c := 5) (idx := 108) k_X5_reasonOfLesson (by decide +kernel) cl_X5_reasonOfLesson (by decide) rfl wd_1527 wd_1529 wd_39 (by decide) (e_sf_rec rfl))) (
  e_more (s_i2l (by decide +kernel)) (
  e_more (e_call0 (s_callV (c := 5) (idx := 281) k_X5_mix (by decide +kernel) cl_X5_mix (by decide) rfl wd_1773 wd_1775 wd_70 (by decide) (e_sf_rec rfl))) (
  e_more (s_iinc (z := 1) (n := 1) (by decide +kernel) (by decide) (by decide)) (
  e_more (s_goto (off := (-61)) (by decide +kernel) (by decide)) (
  e_more (s_iconst (n := 0) (v := 0) (by decide +kernel) (by decide)) (
  e_more (s_istore_n (k := 1) (by decide +kernel) rfl (by decide)) (
  e_more (s_iload_n (k := 1) (by decide +kernel) rfl) (
  e_more (s_bipush (n := 6) (v := 6) (by decide +kernel) (by decide)) (
  e_more (s_aload_n (k := 0) (by decide +kernel) rfl) (
  e_more (s_getR (c := 5) (j := 0) (idx := 7) (by decide +kernel) (by decide) (by decide) rfl wd_1349) (
  e_more (s_ialc (n := 1) (x := 1) (s_iconst (n := 1) (v := 1) (by decide +kernel) (by decide)) (by decide +kernel) (by decide) (by decide)) (
  e_more (s_imul (by decide +kernel)) (
  e_more (s_ic_ge (off := 26) (by decide +kernel) (by decide)) (
  e_more (s_aload_n (k := 0) (by decide +kernel) rfl) (
  e_more (s_aload_n (k := 0) (by decide +kernel) rfl) (
  e_more (s_iload_n (k := 1) (by decide +kernel) rfl) (
  e_more (s_bipush (n := 6) (v := 6) (by decide +kernel) (by decide)) (
  e_more (s_idiv (by decide +kernel)) (
  e_more (s_iload_n (k := 1) (by decide +kernel) rfl) (
  e_more (s_bipush (n := 6) (v := 6) (by decide +kernel) (by decide)) (
  e_more (s_irem (by decide +kernel)) (
  e_more (e_call0 (s_callV (c := 5) (idx := 231) k_X5_instrumentTold (by decide +kernel) cl_X5_instrumentTold (by decide) rfl wd_1684 wd_1686 wd_60 (by decide) (e_sf_rec rfl))) (
  e_more (s_i2l (by decide +kernel)) (
  e_more (e_call0 (s_callV (c := 5) (idx := 281) k_X5_mix (by decide +kernel) cl_X5_mix (by decide) rfl wd_1773 wd_1775 wd_70 (by decide) (e_sf_rec rfl))) (
  e_more (s_iinc (z := 1) (n := 1) (by decide +kernel) (by decide) (by decide)) (
  e_more (s_goto (off := (-33)) (by decide +kernel) (by decide)) (
  e_no_more))))))))))))))))))))))))))))))))))))))))
def tb_X5_digest_2 : eTb := [(140, t_push (.inl 0) 1 140), (141, t_stI 1 1 141), (142, t_ldI 1 1 142), (143, t_ldO 0 1 143), (144, t_getR e_rf 5 0 144), (147, t_ialc 2 1 147), (149, t_ic (fun a b => b ≤ a) 168 149), (152, t_ldO 0 1 152), (153, t_ldO 0 1 153), (154, t_ldI 1 1 154), (155, t_call0 2 w_X5_loanTold 155), (158, t_i1 (fun a => .inr (.inl a.toInt64)) 158), (159, t_call0 2 w_X5_mix 159), (162, t_iinc 1 1 162), (165, t_goto 142), (168, t_push (.inl 0) 1 168), (169, t_stI 1 1 169), (170, t_ldI 1 1 170), (171, t_push (.inl 4) 1 171), (172, t_ic (fun a b => b ≤ a) 186 172), (175, t_ldO 0 1 175), (176, t_ldI 1 1 176), (177, t_call0 2 w_X5_mixMarch 177), (180, t_iinc 1 1 180), (183, t_goto 170), (186, t_ldO 0 1 186), (187, t_ldO 0 1 187), (188, t_call0 1 w_X5_bestTold 188), (191, t_i1 (fun a => .inr (.inl a.toInt64)) 191), (192, t_call0 2 w_X5_mix 192), (195, t_ldO 0 1 195), (196, t_ldO 0 1 196), (197, t_call0 1 w_X5_shareTold 197), (200, t_call0 1 w_X5_bitsOf 200), (203, t_call0 2 w_X5_mix 203), (206, t_ldO 0 1 206), (207, t_ldO 0 1 207), (208, t_getI 5 7 208), (211, t_i1 (fun a => .inr (.inl a.toInt64)) 211), (212, t_call0 2 w_X5_mix 212)]
theorem st_X5_digest_2 : ∀ x ∈ tb_X5_digest_2, e_Sd e_rf RX5 i_X5_digest x.1 x.2 :=
  e_more (s_iconst (n := 0) (v := 0) (by decide +kernel) (by decide)) (
  e_more (s_istore_n (k := 1) (by decide +kernel) rfl (by decide)) (
  e_more (s_iload_n (k := 1) (by decide +kernel) rfl) (
  e_more (s_aload_n (k := 0) (by decide +kernel) rfl) (
  e_more (s_getR (c := 5) (j := 0) (idx := 7) (by decide +kernel) (by decide) (by decide) rfl wd_1349) (
  e_more (s_ialc (n := 2) (x := 2) (s_iconst (n := 2) (v := 2) (by decide +kernel) (by decide)) (by decide +kernel) (by decide) (by decide)) (
  e_more (s_ic_ge (off := 19) (by decide +kernel) (by decide)) (
  e_more (s_aload_n (k := 0) (by decide +kernel) rfl) (
  e_more (s_aload_n (k := 0) (by decide +kernel) rfl) (
  e_more (s_iload_n (k := 1) (by decide +kernel) rfl) (
  e_more (e_call0 (s_callV (c := 5) (idx := 234) k_X5_loanTold (by decide +kernel) cl_X5_loanTold (by decide) rfl wd_1692 wd_1694 wd_61 (by decide) (e_sf_rec rfl))) (
  e_more (s_i2l (by decide +kernel)) (
  e_more (e_call0 (s_callV (c := 5) (idx := 281) k_X5_mix (by decide +kernel) cl_X5_mix (by decide) rfl wd_1773 wd_1775 wd_70 (by decide) (e_sf_rec rfl))) (
  e_more (s_iinc (z := 1) (n := 1) (by decide +kernel) (by decide) (by decide)) (
  e_more (s_goto (off := (-23)) (by decide +kernel) (by decide)) (
  e_more (s_iconst (n := 0) (v := 0) (by decide +kernel) (by decide)) (
  e_more (s_istore_n (k := 1) (by decide +kernel) rfl (by decide)) (
  e_more (s_iload_n (k := 1) (by decide +kernel) rfl) (
  e_more (s_iconst (n := 4) (v := 4) (by decide +kernel) (by decide)) (
  e_more (s_ic_ge (off := 14) (by decide +kernel) (by decide)) (
  e_more (s_aload_n (k := 0) (by decide +kernel) rfl) (
  e_more (s_iload_n (k := 1) (by decide +kernel) rfl) (
  e_more (e_call0 (s_callV (c := 5) (idx := 287) k_X5_mixMarch (by decide +kernel) cl_X5_mixMarch (by decide) rfl wd_1778 wd_1780 wd_71 (by decide) (e_sf_rec rfl))) (
  e_more (s_iinc (z := 1) (n := 1) (by decide +kernel) (by decide) (by decide)) (
  e_more (s_goto (off := (-13)) (by decide +kernel) (by decide)) (
  e_more (s_aload_n (k := 0) (by decide +kernel) rfl) (
  e_more (s_aload_n (k := 0) (by decide +kernel) rfl) (
  e_more (e_call0 (s_callV (c := 5) (idx := 257) k_X5_bestTold (by decide +kernel) cl_X5_bestTold (by decide) rfl wd_1748 wd_1750 wd_67 (by decide) (e_sf_rec rfl))) (
  e_more (s_i2l (by decide +kernel)) (
  e_more (e_call0 (s_callV (c := 5) (idx := 281) k_X5_mix (by decide +kernel) cl_X5_mix (by decide) rfl wd_1773 wd_1775 wd_70 (by decide) (e_sf_rec rfl))) (
  e_more (s_aload_n (k := 0) (by decide +kernel) rfl) (
  e_more (s_aload_n (k := 0) (by decide +kernel) rfl) (
  e_more (e_call0 (s_callV (c := 5) (idx := 263) k_X5_shareTold (by decide +kernel) cl_X5_shareTold (by decide) rfl wd_1764 wd_1766 wd_69 (by decide) (e_sf_rec rfl))) (
  e_more (e_call0 (s_callS (idx := 291) k_X5_bitsOf (by decide +kernel) cl_X5_bitsOf wd_1782 wd_1783 (by decide))) (
  e_more (e_call0 (s_callV (c := 5) (idx := 281) k_X5_mix (by decide +kernel) cl_X5_mix (by decide) rfl wd_1773 wd_1775 wd_70 (by decide) (e_sf_rec rfl))) (
  e_more (s_aload_n (k := 0) (by decide +kernel) rfl) (
  e_more (s_aload_n (k := 0) (by decide +kernel) rfl) (
  e_more (s_getI (c := 5) (j := 7) (idx := 157) (by decide +kernel) (by decide) (by decide) rfl wd_1356) (
  e_more (s_i2l (by decide +kernel)) (
  e_more (e_call0 (s_callV (c := 5) (idx := 281) k_X5_mix (by decide +kernel) cl_X5_mix (by decide) rfl wd_1773 wd_1775 wd_70 (by decide) (e_sf_rec rfl))) (
  e_no_more))))))))))))))))))))))))))))))))))))))))
def tb_X5_digest_3 : eTb := [(215, t_push (.inl 0) 1 215), (216, t_stI 1 1 216), (217, t_ldI 1 1 217), (218, t_ldO 0 1 218), (219, t_getI 5 7 219), (222, t_ic (fun a b => b ≤ a) 242 222), (225, t_ldO 0 1 225), (226, t_ldO 0 1 226), (227, t_getR e_rf 5 6 227), (230, t_ldI 1 1 230), (231, t_iald 231), (232, t_i1 (fun a => .inr (.inl a.toInt64)) 232), (233, t_call0 2 w_X5_mix 233), (236, t_iinc 1 1 236), (239, t_goto 217), (242, t_ldO 0 1 242), (243, t_getL 5 15 243), (246, t_lret)]
theorem st_X5_digest_3 : ∀ x ∈ tb_X5_digest_3, e_Sd e_rf RX5 i_X5_digest x.1 x.2 :=
  e_more (s_iconst (n := 0) (v := 0) (by decide +kernel) (by decide)) (
  e_more (s_istore_n (k := 1) (by decide +kernel) rfl (by decide)) (
  e_more (s_iload_n (k := 1) (by decide +kernel) rfl) (
  e_more (s_aload_n (k := 0) (by decide +kernel) rfl) (
  e_more (s_getI (c := 5) (j := 7) (idx := 157) (by decide +kernel) (by decide) (by decide) rfl wd_1356) (
  e_more (s_ic_ge (off := 20) (by decide +kernel) (by decide)) (
  e_more (s_aload_n (k := 0) (by decide +kernel) rfl) (
  e_more (s_aload_n (k := 0) (by decide +kernel) rfl) (
  e_more (s_getR (c := 5) (j := 6) (idx := 22) (by decide +kernel) (by decide) (by decide) rfl wd_1355) (
  e_more (s_iload_n (k := 1) (by decide +kernel) rfl) (
  e_more (s_iald (by decide +kernel)) (
  e_more (s_i2l (by decide +kernel)) (
  e_more (e_call0 (s_callV (c := 5) (idx := 281) k_X5_mix (by decide +kernel) cl_X5_mix (by decide) rfl wd_1773 wd_1775 wd_70 (by decide) (e_sf_rec rfl))) (
  e_more (s_iinc (z := 1) (n := 1) (by decide +kernel) (by decide) (by decide)) (
  e_more (s_goto (off := (-22)) (by decide +kernel) (by decide)) (
  e_more (s_aload_n (k := 0) (by decide +kernel) rfl) (
  e_more (s_getL (c := 5) (j := 15) (idx := 277) (by decide +kernel) (by decide) (by decide) rfl wd_1364) (
  e_more (s_lret (by decide +kernel) rfl) (
  e_no_more))))))))))))))))))
def tb_X5_digest : eTb := tb_X5_digest_0 ++ tb_X5_digest_1 ++ tb_X5_digest_2 ++ tb_X5_digest_3
theorem st_X5_digest : ∀ x ∈ tb_X5_digest, e_Sd e_rf RX5 i_X5_digest x.1 x.2 := e_app (e_app (e_app (st_X5_digest_0) st_X5_digest_1) st_X5_digest_2) st_X5_digest_3
def w_X5_digest : eW := e_sf 13 (e_rn tb_X5_digest (iL i_X5_digest) 0 0)
theorem k_X5_digest : e_OK e_rf i_X5_digest 0 0 w_X5_digest := k_sf (k_rn (own := RX5) ⟨by decide +kernel, rfl⟩ st_X5_digest)
