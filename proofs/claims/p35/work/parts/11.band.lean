/-! Band: tables and readings, by program. Own work. -/
abbrev i_X0_copyFrom : eI := (yX0_copyFrom, cX0_copyFrom, 3, none, 1)
theorem cl_X0_copyFrom : e_Cl i_X0_copyFrom 1 := ⟨wd_907, wd_16, ⟨by decide, by decide⟩, by decide +kernel, by decide⟩
def tb_X0_copyFrom_0 : eTb := [(0, t_push (.inl 0) 1 0), (1, t_stI 2 1 1), (2, t_ldI 2 1 2), (3, t_push (.inl 10) 2 3), (5, t_ic (fun a b => b ≤ a) 29 5), (8, t_ldO 0 1 8), (9, t_getR e_rf 0 0 9), (12, t_ldI 2 1 12), (13, t_aald e_rf 3 13), (14, t_ldO 1 1 14), (15, t_getR e_rf 0 0 15), (18, t_ldI 2 1 18), (19, t_aald e_rf 3 19), (20, t_call0 2 w_X2_copyFrom 20), (23, t_iinc 2 1 23), (26, t_goto 2), (29, t_ldO 0 1 29), (30, t_ldO 1 1 30), (31, t_getI 0 1 31), (34, t_putI 0 1 34), (37, t_push (.inl 0) 1 37), (38, t_stI 2 1 38), (39, t_ldI 2 1 39), (40, t_push (.inl 10) 2 40), (42, t_ic (fun a b => b ≤ a) 66 42), (45, t_ldO 0 1 45), (46, t_getR e_rf 0 2 46), (49, t_ldI 2 1 49), (50, t_aald e_rf 4 50), (51, t_ldO 1 1 51), (52, t_getR e_rf 0 2 52), (55, t_ldI 2 1 55), (56, t_aald e_rf 4 56), (57, t_call0 2 w_X1_copyFrom 57), (60, t_iinc 2 1 60), (63, t_goto 39), (66, t_ldO 0 1 66), (67, t_ldO 1 1 67), (68, t_getI 0 3 68), (71, t_putI 0 3 71)]
theorem st_X0_copyFrom_0 : ∀ x ∈ tb_X0_copyFrom_0, e_Sd e_rf RX0 i_X0_copyFrom x.1 x.2 :=
  e_more (s_iconst (n := 0) (v := 0) (by decide +kernel) (by decide)) (
  e_more (s_istore_n (k := 2) (by decide +kernel) rfl (by decide)) (
  e_more (s_iload_n (k := 2) (by decide +kernel) rfl) (
  e_more (s_bipush (n := 10) (v := 10) (by decide +kernel) (by decide)) (
  e_more (s_ic_ge (off := 24) (by decide +kernel) (by decide)) (
  e_more (s_aload_n (k := 0) (by decide +kernel) rfl) (
  e_more (s_getR (c := 0) (j := 0) (idx := 13) (by decide +kernel) (by decide) (by decide) rfl wd_122) (
  e_more (s_iload_n (k := 2) (by decide +kernel) rfl) (
  e_more (s_aald (by decide +kernel) (by decide)) (
  e_more (s_aload_n (k := 1) (by decide +kernel) rfl) (
  e_more (s_getR (c := 0) (j := 0) (idx := 13) (by decide +kernel) (by decide) (by decide) rfl wd_122) (
  e_more (s_iload_n (k := 2) (by decide +kernel) rfl) (
  e_more (s_aald (by decide +kernel) (by decide)) (
  e_more (e_call0 (s_callV (c := 2) (idx := 73) k_X2_copyFrom (by decide +kernel) cl_X2_copyFrom (by decide) rfl wd_908 wd_909 wd_910 (by decide) (e_sf_rec rfl))) (
  e_more (s_iinc (z := 1) (n := 1) (by decide +kernel) (by decide) (by decide)) (
  e_more (s_goto (off := (-24)) (by decide +kernel) (by decide)) (
  e_more (s_aload_n (k := 0) (by decide +kernel) rfl) (
  e_more (s_aload_n (k := 1) (by decide +kernel) rfl) (
  e_more (s_getI (c := 0) (j := 1) (idx := 17) (by decide +kernel) (by decide) (by decide) rfl wd_123) (
  e_more (s_putI (c := 0) (j := 1) (idx := 17) (by decide +kernel) (by decide) (by decide) rfl rfl wd_123) (
  e_more (s_iconst (n := 0) (v := 0) (by decide +kernel) (by decide)) (
  e_more (s_istore_n (k := 2) (by decide +kernel) rfl (by decide)) (
  e_more (s_iload_n (k := 2) (by decide +kernel) rfl) (
  e_more (s_bipush (n := 10) (v := 10) (by decide +kernel) (by decide)) (
  e_more (s_ic_ge (off := 24) (by decide +kernel) (by decide)) (
  e_more (s_aload_n (k := 0) (by decide +kernel) rfl) (
  e_more (s_getR (c := 0) (j := 2) (idx := 23) (by decide +kernel) (by decide) (by decide) rfl wd_125) (
  e_more (s_iload_n (k := 2) (by decide +kernel) rfl) (
  e_more (s_aald (by decide +kernel) (by decide)) (
  e_more (s_aload_n (k := 1) (by decide +kernel) rfl) (
  e_more (s_getR (c := 0) (j := 2) (idx := 23) (by decide +kernel) (by decide) (by decide) rfl wd_125) (
  e_more (s_iload_n (k := 2) (by decide +kernel) rfl) (
  e_more (s_aald (by decide +kernel) (by decide)) (
  e_more (e_call0 (s_callV (c := 1) (idx := 77) k_X1_copyFrom (by decide +kernel) cl_X1_copyFrom (by decide) rfl wd_912 wd_913 wd_914 (by decide) (e_sf_rec rfl))) (
  e_more (s_iinc (z := 1) (n := 1) (by decide +kernel) (by decide) (by decide)) (
  e_more (s_goto (off := (-24)) (by decide +kernel) (by decide)) (
  e_more (s_aload_n (k := 0) (by decide +kernel) rfl) (
  e_more (s_aload_n (k := 1) (by decide +kernel) rfl) (
  e_more (s_getI (c := 0) (j := 3) (idx := 27) (by decide +kernel) (by decide) (by decide) rfl wd_126) (
  e_more (s_putI (c := 0) (j := 3) (idx := 27) (by decide +kernel) (by decide) (by decide) rfl rfl wd_126) (
  e_no_more))))))))))))))))))))))))))))))))))))))))
def tb_X0_copyFrom_1 : eTb := [(74, t_ldO 1 1 74), (75, t_getR e_rf 0 4 75), (78, t_push (.inl 0) 1 78), (79, t_ldO 0 1 79), (80, t_getR e_rf 0 4 80), (83, t_push (.inl 0) 1 83), (84, t_push (.inl 10) 2 84), (86, t_acp 0 86), (89, t_ldO 0 1 89), (90, t_ldO 1 1 90), (91, t_getI 0 5 91), (94, t_putI 0 5 94), (97, t_ldO 1 1 97), (98, t_getR e_rf 0 6 98), (101, t_push (.inl 0) 1 101), (102, t_ldO 0 1 102), (103, t_getR e_rf 0 6 103), (106, t_push (.inl 0) 1 106), (107, t_push (aR 22 0) 3 107), (110, t_hlen 110), (111, t_acp 0 111), (114, t_ldO 0 1 114), (115, t_ldO 1 1 115), (116, t_getI 0 7 116), (119, t_putI 0 7 119), (122, t_ldO 0 1 122), (123, t_ldO 1 1 123), (124, t_getI 0 8 124), (127, t_putN .boolean 0 8 127), (130, t_ldO 0 1 130), (131, t_ldO 1 1 131), (132, t_getI 0 9 132), (135, t_putI 0 9 135), (138, t_ldO 0 1 138), (139, t_ldO 1 1 139), (140, t_getI 0 10 140), (143, t_putI 0 10 143), (146, t_ldO 0 1 146), (147, t_ldO 1 1 147), (148, t_getI 0 11 148)]
theorem st_X0_copyFrom_1 : ∀ x ∈ tb_X0_copyFrom_1, e_Sd e_rf RX0 i_X0_copyFrom x.1 x.2 :=
  e_more (s_aload_n (k := 1) (by decide +kernel) rfl) (
  e_more (s_getR (c := 0) (j := 4) (idx := 30) (by decide +kernel) (by decide) (by decide) rfl wd_127) (
  e_more (s_iconst (n := 0) (v := 0) (by decide +kernel) (by decide)) (
  e_more (s_aload_n (k := 0) (by decide +kernel) rfl) (
  e_more (s_getR (c := 0) (j := 4) (idx := 30) (by decide +kernel) (by decide) (by decide) rfl wd_127) (
  e_more (s_iconst (n := 0) (v := 0) (by decide +kernel) (by decide)) (
  e_more (s_bipush (n := 10) (v := 10) (by decide +kernel) (by decide)) (
  e_more (s_acp (t := 0) (idx := 80) (by decide +kernel) (by decide) wd_916 wd_496 wd_497 wd_34 (by decide)) (
  e_more (s_aload_n (k := 0) (by decide +kernel) rfl) (
  e_more (s_aload_n (k := 1) (by decide +kernel) rfl) (
  e_more (s_getI (c := 0) (j := 5) (idx := 34) (by decide +kernel) (by decide) (by decide) rfl wd_128) (
  e_more (s_putI (c := 0) (j := 5) (idx := 34) (by decide +kernel) (by decide) (by decide) rfl rfl wd_128) (
  e_more (s_aload_n (k := 1) (by decide +kernel) rfl) (
  e_more (s_getR (c := 0) (j := 6) (idx := 37) (by decide +kernel) (by decide) (by decide) rfl wd_130) (
  e_more (s_iconst (n := 0) (v := 0) (by decide +kernel) (by decide)) (
  e_more (s_aload_n (k := 0) (by decide +kernel) rfl) (
  e_more (s_getR (c := 0) (j := 6) (idx := 37) (by decide +kernel) (by decide) (by decide) rfl wd_130) (
  e_more (s_iconst (n := 0) (v := 0) (by decide +kernel) (by decide)) (
  e_more (s_getH (idx := 86) (by decide +kernel) wd_391) (
  e_more (s_hlen (by decide +kernel)) (
  e_more (s_acp (t := 0) (idx := 80) (by decide +kernel) (by decide) wd_916 wd_496 wd_497 wd_34 (by decide)) (
  e_more (s_aload_n (k := 0) (by decide +kernel) rfl) (
  e_more (s_aload_n (k := 1) (by decide +kernel) rfl) (
  e_more (s_getI (c := 0) (j := 7) (idx := 40) (by decide +kernel) (by decide) (by decide) rfl wd_131) (
  e_more (s_putI (c := 0) (j := 7) (idx := 40) (by decide +kernel) (by decide) (by decide) rfl rfl wd_131) (
  e_more (s_aload_n (k := 0) (by decide +kernel) rfl) (
  e_more (s_aload_n (k := 1) (by decide +kernel) rfl) (
  e_more (s_getI (c := 0) (j := 8) (idx := 43) (by decide +kernel) (by decide) (by decide) rfl wd_133) (
  e_more (s_putN (c := 0) (j := 8) (idx := 43) (by decide +kernel) (by decide) (by decide) rfl rfl rfl wd_133) (
  e_more (s_aload_n (k := 0) (by decide +kernel) rfl) (
  e_more (s_aload_n (k := 1) (by decide +kernel) rfl) (
  e_more (s_getI (c := 0) (j := 9) (idx := 47) (by decide +kernel) (by decide) (by decide) rfl wd_134) (
  e_more (s_putI (c := 0) (j := 9) (idx := 47) (by decide +kernel) (by decide) (by decide) rfl rfl wd_134) (
  e_more (s_aload_n (k := 0) (by decide +kernel) rfl) (
  e_more (s_aload_n (k := 1) (by decide +kernel) rfl) (
  e_more (s_getI (c := 0) (j := 10) (idx := 50) (by decide +kernel) (by decide) (by decide) rfl wd_135) (
  e_more (s_putI (c := 0) (j := 10) (idx := 50) (by decide +kernel) (by decide) (by decide) rfl rfl wd_135) (
  e_more (s_aload_n (k := 0) (by decide +kernel) rfl) (
  e_more (s_aload_n (k := 1) (by decide +kernel) rfl) (
  e_more (s_getI (c := 0) (j := 11) (idx := 53) (by decide +kernel) (by decide) (by decide) rfl wd_137) (
  e_no_more))))))))))))))))))))))))))))))))))))))))
def tb_X0_copyFrom_2 : eTb := [(151, t_putI 0 11 151), (154, t_ldO 0 1 154), (155, t_ldO 1 1 155), (156, t_getI 0 12 156), (159, t_putI 0 12 159), (162, t_ldO 0 1 162), (163, t_ldO 1 1 163), (164, t_getI 0 13 164), (167, t_putI 0 13 167), (170, t_ldO 0 1 170), (171, t_ldO 1 1 171), (172, t_getI 0 14 172), (175, t_putI 0 14 175), (178, t_ldO 0 1 178), (179, t_ldO 1 1 179), (180, t_getI 0 15 180), (183, t_putI 0 15 183), (186, t_ldO 0 1 186), (187, t_ldO 1 1 187), (188, t_getI 0 16 188), (191, t_putI 0 16 191), (194, t_ret)]
theorem st_X0_copyFrom_2 : ∀ x ∈ tb_X0_copyFrom_2, e_Sd e_rf RX0 i_X0_copyFrom x.1 x.2 :=
  e_more (s_putI (c := 0) (j := 11) (idx := 53) (by decide +kernel) (by decide) (by decide) rfl rfl wd_137) (
  e_more (s_aload_n (k := 0) (by decide +kernel) rfl) (
  e_more (s_aload_n (k := 1) (by decide +kernel) rfl) (
  e_more (s_getI (c := 0) (j := 12) (idx := 56) (by decide +kernel) (by decide) (by decide) rfl wd_139) (
  e_more (s_putI (c := 0) (j := 12) (idx := 56) (by decide +kernel) (by decide) (by decide) rfl rfl wd_139) (
  e_more (s_aload_n (k := 0) (by decide +kernel) rfl) (
  e_more (s_aload_n (k := 1) (by decide +kernel) rfl) (
  e_more (s_getI (c := 0) (j := 13) (idx := 59) (by decide +kernel) (by decide) (by decide) rfl wd_140) (
  e_more (s_putI (c := 0) (j := 13) (idx := 59) (by decide +kernel) (by decide) (by decide) rfl rfl wd_140) (
  e_more (s_aload_n (k := 0) (by decide +kernel) rfl) (
  e_more (s_aload_n (k := 1) (by decide +kernel) rfl) (
  e_more (s_getI (c := 0) (j := 14) (idx := 62) (by decide +kernel) (by decide) (by decide) rfl wd_141) (
  e_more (s_putI (c := 0) (j := 14) (idx := 62) (by decide +kernel) (by decide) (by decide) rfl rfl wd_141) (
  e_more (s_aload_n (k := 0) (by decide +kernel) rfl) (
  e_more (s_aload_n (k := 1) (by decide +kernel) rfl) (
  e_more (s_getI (c := 0) (j := 15) (idx := 65) (by decide +kernel) (by decide) (by decide) rfl wd_142) (
  e_more (s_putI (c := 0) (j := 15) (idx := 65) (by decide +kernel) (by decide) (by decide) rfl rfl wd_142) (
  e_more (s_aload_n (k := 0) (by decide +kernel) rfl) (
  e_more (s_aload_n (k := 1) (by decide +kernel) rfl) (
  e_more (s_getI (c := 0) (j := 16) (idx := 68) (by decide +kernel) (by decide) (by decide) rfl wd_143) (
  e_more (s_putI (c := 0) (j := 16) (idx := 68) (by decide +kernel) (by decide) (by decide) rfl rfl wd_143) (
  e_more (s_ret (by decide +kernel) rfl) (
  e_no_more))))))))))))))))))))))
def tb_X0_copyFrom : eTb := tb_X0_copyFrom_0 ++ tb_X0_copyFrom_1 ++ tb_X0_copyFrom_2
theorem st_X0_copyFrom : ∀ x ∈ tb_X0_copyFrom, e_Sd e_rf RX0 i_X0_copyFrom x.1 x.2 := e_app (e_app (st_X0_copyFrom_0) st_X0_copyFrom_1) st_X0_copyFrom_2
def w_X0_copyFrom : eW := e_sf 1 (e_rn tb_X0_copyFrom (iL i_X0_copyFrom) 0 0)
theorem k_X0_copyFrom : e_OK e_rf i_X0_copyFrom 0 0 w_X0_copyFrom := k_sf (k_rn (own := RX0) ⟨by decide +kernel, rfl⟩ st_X0_copyFrom)
abbrev i_X0_pupilAt : eI := (yX0_pupilAt, cX0_pupilAt, 2, (some (.object "BandCornets$Pupil")), 0)
theorem cl_X0_pupilAt : e_Cl i_X0_pupilAt 1 := ⟨wd_333, wd_16, ⟨by decide, by decide⟩, by decide +kernel, by decide⟩
def tb_X0_pupilAt : eTb := [(0, t_ldI 1 1 0), (1, t_if (fun a => a < 0) 21 1), (4, t_ldI 1 1 4), (5, t_ldO 0 1 5), (6, t_getI 0 1 6), (9, t_ic (fun a b => b ≤ a) 21 9), (12, t_ldI 1 1 12), (13, t_ldO 0 1 13), (14, t_getR e_rf 0 0 14), (17, t_alen 17), (18, t_ic (fun a b => a < b) 23 18), (21, t_push (aO none) 1 21), (22, t_aret), (23, t_ldO 0 1 23), (24, t_getR e_rf 0 0 24), (27, t_ldI 1 1 27), (28, t_aald e_rf 3 28), (29, t_aret)]
theorem st_X0_pupilAt : ∀ x ∈ tb_X0_pupilAt, e_Sd e_rf RX0 i_X0_pupilAt x.1 x.2 :=
  e_more (s_iload_n (k := 1) (by decide +kernel) rfl) (
  e_more (s_if_lt (off := 20) (by decide +kernel) (by decide)) (
  e_more (s_iload_n (k := 1) (by decide +kernel) rfl) (
  e_more (s_aload_n (k := 0) (by decide +kernel) rfl) (
  e_more (s_getI (c := 0) (j := 1) (idx := 17) (by decide +kernel) (by decide) (by decide) rfl wd_123) (
  e_more (s_ic_ge (off := 12) (by decide +kernel) (by decide)) (
  e_more (s_iload_n (k := 1) (by decide +kernel) rfl) (
  e_more (s_aload_n (k := 0) (by decide +kernel) rfl) (
  e_more (s_getR (c := 0) (j := 0) (idx := 13) (by decide +kernel) (by decide) (by decide) rfl wd_122) (
  e_more (s_alen (by decide +kernel)) (
  e_more (s_ic_lt (off := 5) (by decide +kernel) (by decide)) (
  e_more (s_null (by decide +kernel)) (
  e_more (s_aret (by decide +kernel) rfl (by first | exact Or.inl ⟨_, rfl⟩ | exact Or.inr ⟨_, rfl⟩)) (
  e_more (s_aload_n (k := 0) (by decide +kernel) rfl) (
  e_more (s_getR (c := 0) (j := 0) (idx := 13) (by decide +kernel) (by decide) (by decide) rfl wd_122) (
  e_more (s_iload_n (k := 1) (by decide +kernel) rfl) (
  e_more (s_aald (by decide +kernel) (by decide)) (
  e_more (s_aret (by decide +kernel) rfl (by first | exact Or.inl ⟨_, rfl⟩ | exact Or.inr ⟨_, rfl⟩)) (
  e_no_more))))))))))))))))))
def w_X0_pupilAt : eW := e_sf 1 (e_rn tb_X0_pupilAt (iL i_X0_pupilAt) 0 0)
theorem k_X0_pupilAt : e_OK e_rf i_X0_pupilAt 0 0 w_X0_pupilAt := k_sf (k_rn (own := RX0) ⟨by decide +kernel, rfl⟩ st_X0_pupilAt)
abbrev i_X0_instrumentAt : eI := (yX0_instrumentAt, cX0_instrumentAt, 2, (some (.object "BandCornets$Instrument")), 0)
theorem cl_X0_instrumentAt : e_Cl i_X0_instrumentAt 1 := ⟨wd_341, wd_16, ⟨by decide, by decide⟩, by decide +kernel, by decide⟩
def tb_X0_instrumentAt : eTb := [(0, t_ldI 1 1 0), (1, t_if (fun a => a < 0) 21 1), (4, t_ldI 1 1 4), (5, t_ldO 0 1 5), (6, t_getI 0 3 6), (9, t_ic (fun a b => b ≤ a) 21 9), (12, t_ldI 1 1 12), (13, t_ldO 0 1 13), (14, t_getR e_rf 0 2 14), (17, t_alen 17), (18, t_ic (fun a b => a < b) 23 18), (21, t_push (aO none) 1 21), (22, t_aret), (23, t_ldO 0 1 23), (24, t_getR e_rf 0 2 24), (27, t_ldI 1 1 27), (28, t_aald e_rf 4 28), (29, t_aret)]
theorem st_X0_instrumentAt : ∀ x ∈ tb_X0_instrumentAt, e_Sd e_rf RX0 i_X0_instrumentAt x.1 x.2 :=
  e_more (s_iload_n (k := 1) (by decide +kernel) rfl) (
  e_more (s_if_lt (off := 20) (by decide +kernel) (by decide)) (
  e_more (s_iload_n (k := 1) (by decide +kernel) rfl) (
  e_more (s_aload_n (k := 0) (by decide +kernel) rfl) (
  e_more (s_getI (c := 0) (j := 3) (idx := 27) (by decide +kernel) (by decide) (by decide) rfl wd_126) (
  e_more (s_ic_ge (off := 12) (by decide +kernel) (by decide)) (
  e_more (s_iload_n (k := 1) (by decide +kernel) rfl) (
  e_more (s_aload_n (k := 0) (by decide +kernel) rfl) (
  e_more (s_getR (c := 0) (j := 2) (idx := 23) (by decide +kernel) (by decide) (by decide) rfl wd_125) (
  e_more (s_alen (by decide +kernel)) (
  e_more (s_ic_lt (off := 5) (by decide +kernel) (by decide)) (
  e_more (s_null (by decide +kernel)) (
  e_more (s_aret (by decide +kernel) rfl (by first | exact Or.inl ⟨_, rfl⟩ | exact Or.inr ⟨_, rfl⟩)) (
  e_more (s_aload_n (k := 0) (by decide +kernel) rfl) (
  e_more (s_getR (c := 0) (j := 2) (idx := 23) (by decide +kernel) (by decide) (by decide) rfl wd_125) (
  e_more (s_iload_n (k := 1) (by decide +kernel) rfl) (
  e_more (s_aald (by decide +kernel) (by decide)) (
  e_more (s_aret (by decide +kernel) rfl (by first | exact Or.inl ⟨_, rfl⟩ | exact Or.inr ⟨_, rfl⟩)) (
  e_no_more))))))))))))))))))
def w_X0_instrumentAt : eW := e_sf 1 (e_rn tb_X0_instrumentAt (iL i_X0_instrumentAt) 0 0)
theorem k_X0_instrumentAt : e_OK e_rf i_X0_instrumentAt 0 0 w_X0_instrumentAt := k_sf (k_rn (own := RX0) ⟨by decide +kernel, rfl⟩ st_X0_instrumentAt)
abbrev i_X0_hasRoomForPupil : eI := (yX0_hasRoomForPupil, cX0_hasRoomForPupil, 1, (some .boolean), 0)
theorem cl_X0_hasRoomForPupil : e_Cl i_X0_hasRoomForPupil 0 := ⟨wd_883, wd_16, ⟨by decide, by decide⟩, by decide +kernel, by decide⟩
def tb_X0_hasRoomForPupil : eTb := [(0, t_ldO 0 1 0), (1, t_getI 0 1 1), (4, t_push (.inl 10) 2 4), (6, t_ic (fun a b => b ≤ a) 13 6), (9, t_push (.inl 1) 1 9), (10, t_goto 14), (13, t_push (.inl 0) 1 13), (14, t_zret)]
theorem st_X0_hasRoomForPupil : ∀ x ∈ tb_X0_hasRoomForPupil, e_Sd e_rf RX0 i_X0_hasRoomForPupil x.1 x.2 :=
  e_more (s_aload_n (k := 0) (by decide +kernel) rfl) (
  e_more (s_getI (c := 0) (j := 1) (idx := 17) (by decide +kernel) (by decide) (by decide) rfl wd_123) (
  e_more (s_bipush (n := 10) (v := 10) (by decide +kernel) (by decide)) (
  e_more (s_ic_ge (off := 7) (by decide +kernel) (by decide)) (
  e_more (s_iconst (n := 1) (v := 1) (by decide +kernel) (by decide)) (
  e_more (s_goto (off := 4) (by decide +kernel) (by decide)) (
  e_more (s_iconst (n := 0) (v := 0) (by decide +kernel) (by decide)) (
  e_more (s_zret (by decide +kernel) rfl) (
  e_no_more))))))))
def w_X0_hasRoomForPupil : eW := e_sf 1 (e_rn tb_X0_hasRoomForPupil (iL i_X0_hasRoomForPupil) 0 0)
theorem k_X0_hasRoomForPupil : e_OK e_rf i_X0_hasRoomForPupil 0 0 w_X0_hasRoomForPupil := k_sf (k_rn (own := RX0) ⟨by decide +kernel, rfl⟩ st_X0_hasRoomForPupil)
abbrev i_X0_hasRoomForInstrument : eI := (yX0_hasRoomForInstrument, cX0_hasRoomForInstrument, 1, (some .boolean), 0)
theorem cl_X0_hasRoomForInstrument : e_Cl i_X0_hasRoomForInstrument 0 := ⟨wd_933, wd_16, ⟨by decide, by decide⟩, by decide +kernel, by decide⟩
def tb_X0_hasRoomForInstrument : eTb := [(0, t_ldO 0 1 0), (1, t_getI 0 3 1), (4, t_push (.inl 10) 2 4), (6, t_ic (fun a b => b ≤ a) 13 6), (9, t_push (.inl 1) 1 9), (10, t_goto 14), (13, t_push (.inl 0) 1 13), (14, t_zret)]
theorem st_X0_hasRoomForInstrument : ∀ x ∈ tb_X0_hasRoomForInstrument, e_Sd e_rf RX0 i_X0_hasRoomForInstrument x.1 x.2 :=
  e_more (s_aload_n (k := 0) (by decide +kernel) rfl) (
  e_more (s_getI (c := 0) (j := 3) (idx := 27) (by decide +kernel) (by decide) (by decide) rfl wd_126) (
  e_more (s_bipush (n := 10) (v := 10) (by decide +kernel) (by decide)) (
  e_more (s_ic_ge (off := 7) (by decide +kernel) (by decide)) (
  e_more (s_iconst (n := 1) (v := 1) (by decide +kernel) (by decide)) (
  e_more (s_goto (off := 4) (by decide +kernel) (by decide)) (
  e_more (s_iconst (n := 0) (v := 0) (by decide +kernel) (by decide)) (
  e_more (s_zret (by decide +kernel) rfl) (
  e_no_more))))))))
def w_X0_hasRoomForInstrument : eW := e_sf 1 (e_rn tb_X0_hasRoomForInstrument (iL i_X0_hasRoomForInstrument) 0 0)
theorem k_X0_hasRoomForInstrument : e_OK e_rf i_X0_hasRoomForInstrument 0 0 w_X0_hasRoomForInstrument := k_sf (k_rn (own := RX0) ⟨by decide +kernel, rfl⟩ st_X0_hasRoomForInstrument)
abbrev i_X0_addPupil : eI := (yX0_addPupil, cX0_addPupil, 3, (some .int), 1)
theorem cl_X0_addPupil : e_Cl i_X0_addPupil 1 := ⟨wd_920, wd_16, ⟨by decide, by decide⟩, by decide +kernel, by decide⟩
def tb_X0_addPupil : eTb := [(0, t_ldO 0 1 0), (1, t_dup 1), (2, t_getI 0 1 2), (5, t_push (.inl 1) 1 5), (6, t_ii (fun a b => a + b) 6), (7, t_putI 0 1 7), (10, t_ldO 0 1 10), (11, t_ldO 0 1 11), (12, t_getI 0 1 12), (15, t_push (.inl 1) 1 15), (16, t_ii (fun a b => a - b) 16), (17, t_call0 2 w_X0_pupilAt 17), (20, t_stO 2 1 20), (21, t_ldO 2 1 21), (22, t_null 30 22), (25, t_ldO 2 1 25), (26, t_ldI 1 1 26), (27, t_call0 2 w_X2_come 27), (30, t_ldO 0 1 30), (31, t_getI 0 1 31), (34, t_push (.inl 1) 1 34), (35, t_ii (fun a b => a - b) 35), (36, t_jret)]
theorem st_X0_addPupil : ∀ x ∈ tb_X0_addPupil, e_Sd e_rf RX0 i_X0_addPupil x.1 x.2 :=
  e_more (s_aload_n (k := 0) (by decide +kernel) rfl) (
  e_more (s_dup (by decide +kernel)) (
  e_more (s_getI (c := 0) (j := 1) (idx := 17) (by decide +kernel) (by decide) (by decide) rfl wd_123) (
  e_more (s_iconst (n := 1) (v := 1) (by decide +kernel) (by decide)) (
  e_more (s_iadd (by decide +kernel)) (
  e_more (s_putI (c := 0) (j := 1) (idx := 17) (by decide +kernel) (by decide) (by decide) rfl rfl wd_123) (
  e_more (s_aload_n (k := 0) (by decide +kernel) rfl) (
  e_more (s_aload_n (k := 0) (by decide +kernel) rfl) (
  e_more (s_getI (c := 0) (j := 1) (idx := 17) (by decide +kernel) (by decide) (by decide) rfl wd_123) (
  e_more (s_iconst (n := 1) (v := 1) (by decide +kernel) (by decide)) (
  e_more (s_isub (by decide +kernel)) (
  e_more (e_call0 (s_callV (c := 0) (idx := 89) k_X0_pupilAt (by decide +kernel) cl_X0_pupilAt (by decide) rfl wd_768 wd_331 wd_332 (by decide) (e_sf_rec rfl))) (
  e_more (s_astore_n (k := 2) (by decide +kernel) rfl (by decide)) (
  e_more (s_aload_n (k := 2) (by decide +kernel) rfl) (
  e_more (s_ifnull (off := 8) (by decide +kernel) (by decide)) (
  e_more (s_aload_n (k := 2) (by decide +kernel) rfl) (
  e_more (s_iload_n (k := 1) (by decide +kernel) rfl) (
  e_more (e_call0 (s_callV (c := 2) (idx := 93) k_X2_come (by decide +kernel) cl_X2_come (by decide) rfl wd_921 wd_922 wd_923 (by decide) (e_sf_rec rfl))) (
  e_more (s_aload_n (k := 0) (by decide +kernel) rfl) (
  e_more (s_getI (c := 0) (j := 1) (idx := 17) (by decide +kernel) (by decide) (by decide) rfl wd_123) (
  e_more (s_iconst (n := 1) (v := 1) (by decide +kernel) (by decide)) (
  e_more (s_isub (by decide +kernel)) (
  e_more (s_jret (by decide +kernel) rfl) (
  e_no_more)))))))))))))))))))))))
def w_X0_addPupil : eW := e_sf 1 (e_rn tb_X0_addPupil (iL i_X0_addPupil) 0 0)
theorem k_X0_addPupil : e_OK e_rf i_X0_addPupil 0 0 w_X0_addPupil := k_sf (k_rn (own := RX0) ⟨by decide +kernel, rfl⟩ st_X0_addPupil)
abbrev i_X0_addInstrument : eI := (yX0_addInstrument, cX0_addInstrument, 3, (some .int), 1)
theorem cl_X0_addInstrument : e_Cl i_X0_addInstrument 1 := ⟨wd_938, wd_16, ⟨by decide, by decide⟩, by decide +kernel, by decide⟩
def tb_X0_addInstrument : eTb := [(0, t_ldO 0 1 0), (1, t_dup 1), (2, t_getI 0 3 2), (5, t_push (.inl 1) 1 5), (6, t_ii (fun a b => a + b) 6), (7, t_putI 0 3 7), (10, t_ldO 0 1 10), (11, t_ldO 0 1 11), (12, t_getI 0 3 12), (15, t_push (.inl 1) 1 15), (16, t_ii (fun a b => a - b) 16), (17, t_call0 2 w_X0_instrumentAt 17), (20, t_stO 2 1 20), (21, t_ldO 2 1 21), (22, t_null 30 22), (25, t_ldO 2 1 25), (26, t_ldI 1 1 26), (27, t_call0 2 w_X1_come 27), (30, t_ldO 0 1 30), (31, t_getI 0 3 31), (34, t_push (.inl 1) 1 34), (35, t_ii (fun a b => a - b) 35), (36, t_jret)]
theorem st_X0_addInstrument : ∀ x ∈ tb_X0_addInstrument, e_Sd e_rf RX0 i_X0_addInstrument x.1 x.2 :=
  e_more (s_aload_n (k := 0) (by decide +kernel) rfl) (
  e_more (s_dup (by decide +kernel)) (
  e_more (s_getI (c := 0) (j := 3) (idx := 27) (by decide +kernel) (by decide) (by decide) rfl wd_126) (
  e_more (s_iconst (n := 1) (v := 1) (by decide +kernel) (by decide)) (
  e_more (s_iadd (by decide +kernel)) (
  e_more (s_putI (c := 0) (j := 3) (idx := 27) (by decide +kernel) (by decide) (by decide) rfl rfl wd_126) (
  e_more (s_aload_n (k := 0) (by decide +kernel) rfl) (
  e_more (s_aload_n (k := 0) (by decide +kernel) rfl) (
  e_more (s_getI (c := 0) (j := 3) (idx := 27) (by decide +kernel) (by decide) (by decide) rfl wd_126) (
  e_more (s_iconst (n := 1) (v := 1) (by decide +kernel) (by decide)) (
  e_more (s_isub (by decide +kernel)) (
  e_more (e_call0 (s_callV (c := 0) (idx := 97) k_X0_instrumentAt (by decide +kernel) cl_X0_instrumentAt (by decide) rfl wd_810 wd_339 wd_340 (by decide) (e_sf_rec rfl))) (
  e_more (s_astore_n (k := 2) (by decide +kernel) rfl (by decide)) (
  e_more (s_aload_n (k := 2) (by decide +kernel) rfl) (
  e_more (s_ifnull (off := 8) (by decide +kernel) (by decide)) (
  e_more (s_aload_n (k := 2) (by decide +kernel) rfl) (
  e_more (s_iload_n (k := 1) (by decide +kernel) rfl) (
  e_more (e_call0 (s_callV (c := 1) (idx := 101) k_X1_come (by decide +kernel) cl_X1_come (by decide) rfl wd_939 wd_940 wd_941 (by decide) (e_sf_rec rfl))) (
  e_more (s_aload_n (k := 0) (by decide +kernel) rfl) (
  e_more (s_getI (c := 0) (j := 3) (idx := 27) (by decide +kernel) (by decide) (by decide) rfl wd_126) (
  e_more (s_iconst (n := 1) (v := 1) (by decide +kernel) (by decide)) (
  e_more (s_isub (by decide +kernel)) (
  e_more (s_jret (by decide +kernel) rfl) (
  e_no_more)))))))))))))))))))))))
def w_X0_addInstrument : eW := e_sf 1 (e_rn tb_X0_addInstrument (iL i_X0_addInstrument) 0 0)
theorem k_X0_addInstrument : e_OK e_rf i_X0_addInstrument 0 0 w_X0_addInstrument := k_sf (k_rn (own := RX0) ⟨by decide +kernel, rfl⟩ st_X0_addInstrument)
abbrev i_X0_isSetting : eI := (yX0_isSetting, cX0_isSetting, 2, (some .boolean), 0)
theorem cl_X0_isSetting : e_Cl i_X0_isSetting 1 := ⟨wd_390, wd_16, ⟨by decide, by decide⟩, by decide +kernel, by decide⟩
def tb_X0_isSetting : eTb := [(0, t_ldI 1 1 0), (1, t_if (fun a => a < 0) 16 1), (4, t_ldI 1 1 4), (5, t_push (aR 22 0) 3 5), (8, t_hlen 8), (9, t_ic (fun a b => b ≤ a) 16 9), (12, t_push (.inl 1) 1 12), (13, t_goto 17), (16, t_push (.inl 0) 1 16), (17, t_zret)]
theorem st_X0_isSetting : ∀ x ∈ tb_X0_isSetting, e_Sd e_rf RX0 i_X0_isSetting x.1 x.2 :=
  e_more (s_iload_n (k := 1) (by decide +kernel) rfl) (
  e_more (s_if_lt (off := 15) (by decide +kernel) (by decide)) (
  e_more (s_iload_n (k := 1) (by decide +kernel) rfl) (
  e_more (s_getH (idx := 86) (by decide +kernel) wd_391) (
  e_more (s_hlen (by decide +kernel)) (
  e_more (s_ic_ge (off := 7) (by decide +kernel) (by decide)) (
  e_more (s_iconst (n := 1) (v := 1) (by decide +kernel) (by decide)) (
  e_more (s_goto (off := 4) (by decide +kernel) (by decide)) (
  e_more (s_iconst (n := 0) (v := 0) (by decide +kernel) (by decide)) (
  e_more (s_zret (by decide +kernel) rfl) (
  e_no_more))))))))))
def w_X0_isSetting : eW := e_sf 1 (e_rn tb_X0_isSetting (iL i_X0_isSetting) 0 0)
theorem k_X0_isSetting : e_OK e_rf i_X0_isSetting 0 0 w_X0_isSetting := k_sf (k_rn (own := RX0) ⟨by decide +kernel, rfl⟩ st_X0_isSetting)
abbrev i_X0_highestOf : eI := (yX0_highestOf, cX0_highestOf, 2, (some .int), 1)
theorem cl_X0_highestOf : e_Cl i_X0_highestOf 1 := ⟨wd_1027, wd_16, ⟨by decide, by decide⟩, by decide +kernel, by decide⟩
def tb_X0_highestOf : eTb := [(0, t_ldO 0 1 0), (1, t_ldI 1 1 1), (2, t_call0 2 w_X0_isSetting 2), (5, t_if (fun a => a = 0) 16 5), (8, t_push (aR 22 0) 3 8), (11, t_ldI 1 1 11), (12, t_hald 12), (13, t_goto 17), (16, t_push (.inl 0) 1 16), (17, t_jret)]
theorem st_X0_highestOf : ∀ x ∈ tb_X0_highestOf, e_Sd e_rf RX0 i_X0_highestOf x.1 x.2 :=
  e_more (s_aload_n (k := 0) (by decide +kernel) rfl) (
  e_more (s_iload_n (k := 1) (by decide +kernel) rfl) (
  e_more (e_call0 (s_callV (c := 0) (idx := 102) k_X0_isSetting (by decide +kernel) cl_X0_isSetting (by decide) rfl wd_387 wd_388 wd_389 (by decide) (e_sf_rec rfl))) (
  e_more (s_if_eq (off := 11) (by decide +kernel) (by decide)) (
  e_more (s_getH (idx := 86) (by decide +kernel) wd_391) (
  e_more (s_iload_n (k := 1) (by decide +kernel) rfl) (
  e_more (s_hald (by decide +kernel)) (
  e_more (s_goto (off := 4) (by decide +kernel) (by decide)) (
  e_more (s_iconst (n := 0) (v := 0) (by decide +kernel) (by decide)) (
  e_more (s_jret (by decide +kernel) rfl) (
  e_no_more))))))))))
def w_X0_highestOf : eW := e_sf 1 (e_rn tb_X0_highestOf (iL i_X0_highestOf) 0 0)
theorem k_X0_highestOf : e_OK e_rf i_X0_highestOf 0 0 w_X0_highestOf := k_sf (k_rn (own := RX0) ⟨by decide +kernel, rfl⟩ st_X0_highestOf)
abbrev i_X0_settingAt : eI := (yX0_settingAt, cX0_settingAt, 2, (some .int), 1)
theorem cl_X0_settingAt : e_Cl i_X0_settingAt 1 := ⟨wd_386, wd_16, ⟨by decide, by decide⟩, by decide +kernel, by decide⟩
def tb_X0_settingAt : eTb := [(0, t_ldO 0 1 0), (1, t_ldI 1 1 1), (2, t_call0 2 w_X0_isSetting 2), (5, t_if (fun a => a = 0) 17 5), (8, t_ldO 0 1 8), (9, t_getR e_rf 0 6 9), (12, t_ldI 1 1 12), (13, t_iald 13), (14, t_goto 18), (17, t_push (.inl 0) 1 17), (18, t_jret)]
theorem st_X0_settingAt : ∀ x ∈ tb_X0_settingAt, e_Sd e_rf RX0 i_X0_settingAt x.1 x.2 :=
  e_more (s_aload_n (k := 0) (by decide +kernel) rfl) (
  e_more (s_iload_n (k := 1) (by decide +kernel) rfl) (
  e_more (e_call0 (s_callV (c := 0) (idx := 102) k_X0_isSetting (by decide +kernel) cl_X0_isSetting (by decide) rfl wd_387 wd_388 wd_389 (by decide) (e_sf_rec rfl))) (
  e_more (s_if_eq (off := 12) (by decide +kernel) (by decide)) (
  e_more (s_aload_n (k := 0) (by decide +kernel) rfl) (
  e_more (s_getR (c := 0) (j := 6) (idx := 37) (by decide +kernel) (by decide) (by decide) rfl wd_130) (
  e_more (s_iload_n (k := 1) (by decide +kernel) rfl) (
  e_more (s_iald (by decide +kernel)) (
  e_more (s_goto (off := 4) (by decide +kernel) (by decide)) (
  e_more (s_iconst (n := 0) (v := 0) (by decide +kernel) (by decide)) (
  e_more (s_jret (by decide +kernel) rfl) (
  e_no_more)))))))))))
def w_X0_settingAt : eW := e_sf 1 (e_rn tb_X0_settingAt (iL i_X0_settingAt) 0 0)
theorem k_X0_settingAt : e_OK e_rf i_X0_settingAt 0 0 w_X0_settingAt := k_sf (k_rn (own := RX0) ⟨by decide +kernel, rfl⟩ st_X0_settingAt)
abbrev i_X0_changeSetting : eI := (yX0_changeSetting, cX0_changeSetting, 3, none, 1)
theorem cl_X0_changeSetting : e_Cl i_X0_changeSetting 2 := ⟨wd_1032, wd_16, ⟨by decide, by decide⟩, by decide +kernel, by decide⟩
def tb_X0_changeSetting : eTb := [(0, t_ldO 0 1 0), (1, t_ldI 1 1 1), (2, t_call0 2 w_X0_isSetting 2), (5, t_if (fun a => a = 0) 15 5), (8, t_ldO 0 1 8), (9, t_getR e_rf 0 6 9), (12, t_ldI 1 1 12), (13, t_ldI 2 1 13), (14, t_iast 14), (15, t_ret)]
theorem st_X0_changeSetting : ∀ x ∈ tb_X0_changeSetting, e_Sd e_rf RX0 i_X0_changeSetting x.1 x.2 :=
  e_more (s_aload_n (k := 0) (by decide +kernel) rfl) (
  e_more (s_iload_n (k := 1) (by decide +kernel) rfl) (
  e_more (e_call0 (s_callV (c := 0) (idx := 102) k_X0_isSetting (by decide +kernel) cl_X0_isSetting (by decide) rfl wd_387 wd_388 wd_389 (by decide) (e_sf_rec rfl))) (
  e_more (s_if_eq (off := 10) (by decide +kernel) (by decide)) (
  e_more (s_aload_n (k := 0) (by decide +kernel) rfl) (
  e_more (s_getR (c := 0) (j := 6) (idx := 37) (by decide +kernel) (by decide) (by decide) rfl wd_130) (
  e_more (s_iload_n (k := 1) (by decide +kernel) rfl) (
  e_more (s_iload_n (k := 2) (by decide +kernel) rfl) (
  e_more (s_iast (by decide +kernel)) (
  e_more (s_ret (by decide +kernel) rfl) (
  e_no_more))))))))))
def w_X0_changeSetting : eW := e_sf 1 (e_rn tb_X0_changeSetting (iL i_X0_changeSetting) 0 0)
theorem k_X0_changeSetting : e_OK e_rf i_X0_changeSetting 0 0 w_X0_changeSetting := k_sf (k_rn (own := RX0) ⟨by decide +kernel, rfl⟩ st_X0_changeSetting)
abbrev i_X0_whyNoLoan : eI := (yX0_whyNoLoan, cX0_whyNoLoan, 3, (some .int), 2)
theorem cl_X0_whyNoLoan : e_Cl i_X0_whyNoLoan 2 := ⟨wd_856, wd_16, ⟨by decide, by decide⟩, by decide +kernel, by decide⟩
def tb_X0_whyNoLoan : eTb := [(0, t_ldO 1 1 0), (1, t_call0 1 w_X1_isLent 1), (4, t_if (fun a => a = 0) 9 4), (7, t_push (.inl 1) 1 7), (8, t_jret), (9, t_ldO 2 1 9), (10, t_getI 2 4 10), (13, t_push (.inl (-1)) 1 13), (14, t_ic (fun a b => a = b) 19 14), (17, t_push (.inl 2) 1 17), (18, t_jret), (19, t_ldO 1 1 19), (20, t_call0 1 w_X1_isPlayable 20), (23, t_ifn (fun a => a = 0) 28 23), (26, t_push (.inl 3) 1 26), (27, t_jret), (28, t_ldO 2 1 28), (29, t_getI 2 3 29), (32, t_ldO 0 1 32), (33, t_push (.inl 1) 1 33), (34, t_call0 2 w_X0_settingAt 34), (37, t_ic (fun a b => a ≤ b) 42 37), (40, t_push (.inl 4) 1 40), (41, t_jret), (42, t_ldO 2 1 42), (43, t_getI 2 0 43), (46, t_push (.inl 3) 1 46), (47, t_ldO 1 1 47), (48, t_getI 1 0 48), (51, t_ii (fun a b => a * b) 51), (52, t_push (.inl 5) 1 52), (53, t_ii (fun a b => a + b) 53), (54, t_ic (fun a b => b ≤ a) 61 54), (57, t_push (.inl 5) 1 57), (58, t_goto 62), (61, t_push (.inl 0) 1 61), (62, t_jret)]
theorem st_X0_whyNoLoan : ∀ x ∈ tb_X0_whyNoLoan, e_Sd e_rf RX0 i_X0_whyNoLoan x.1 x.2 :=
  e_more (s_aload_n (k := 1) (by decide +kernel) rfl) (
  e_more (e_call0 (s_callV (c := 1) (idx := 106) k_X1_isLent (by decide +kernel) cl_X1_isLent (by decide) rfl wd_857 wd_790 wd_791 (by decide) (e_sf_rec rfl))) (
  e_more (s_if_eq (off := 5) (by decide +kernel) (by decide)) (
  e_more (s_iconst (n := 1) (v := 1) (by decide +kernel) (by decide)) (
  e_more (s_jret (by decide +kernel) rfl) (
  e_more (s_aload_n (k := 2) (by decide +kernel) rfl) (
  e_more (s_getI (c := 2) (j := 4) (idx := 110) (by decide +kernel) (by decide) (by decide) rfl wd_73) (
  e_more (s_iconst (n := (-1)) (v := (-1)) (by decide +kernel) (by decide)) (
  e_more (s_ic_eq (off := 5) (by decide +kernel) (by decide)) (
  e_more (s_iconst (n := 2) (v := 2) (by decide +kernel) (by decide)) (
  e_more (s_jret (by decide +kernel) rfl) (
  e_more (s_aload_n (k := 1) (by decide +kernel) rfl) (
  e_more (e_call0 (s_callV (c := 1) (idx := 113) k_X1_isPlayable (by decide +kernel) cl_X1_isPlayable (by decide) rfl wd_811 wd_343 wd_344 (by decide) (e_sf_rec rfl))) (
  e_more (s_if_ne (off := 5) (by decide +kernel) (by decide)) (
  e_more (s_iconst (n := 3) (v := 3) (by decide +kernel) (by decide)) (
  e_more (s_jret (by decide +kernel) rfl) (
  e_more (s_aload_n (k := 2) (by decide +kernel) rfl) (
  e_more (s_getI (c := 2) (j := 3) (idx := 116) (by decide +kernel) (by decide) (by decide) rfl wd_71) (
  e_more (s_aload_n (k := 0) (by decide +kernel) rfl) (
  e_more (s_iconst (n := 1) (v := 1) (by decide +kernel) (by decide)) (
  e_more (e_call0 (s_callV (c := 0) (idx := 119) k_X0_settingAt (by decide +kernel) cl_X0_settingAt (by decide) rfl wd_858 wd_384 wd_385 (by decide) (e_sf_rec rfl))) (
  e_more (s_ic_le (off := 5) (by decide +kernel) (by decide)) (
  e_more (s_iconst (n := 4) (v := 4) (by decide +kernel) (by decide)) (
  e_more (s_jret (by decide +kernel) rfl) (
  e_more (s_aload_n (k := 2) (by decide +kernel) rfl) (
  e_more (s_getI (c := 2) (j := 0) (idx := 123) (by decide +kernel) (by decide) (by decide) rfl wd_63) (
  e_more (s_iconst (n := 3) (v := 3) (by decide +kernel) (by decide)) (
  e_more (s_aload_n (k := 1) (by decide +kernel) rfl) (
  e_more (s_getI (c := 1) (j := 0) (idx := 126) (by decide +kernel) (by decide) (by decide) rfl wd_101) (
  e_more (s_imul (by decide +kernel)) (
  e_more (s_iconst (n := 5) (v := 5) (by decide +kernel) (by decide)) (
  e_more (s_iadd (by decide +kernel)) (
  e_more (s_ic_ge (off := 7) (by decide +kernel) (by decide)) (
  e_more (s_iconst (n := 5) (v := 5) (by decide +kernel) (by decide)) (
  e_more (s_goto (off := 4) (by decide +kernel) (by decide)) (
  e_more (s_iconst (n := 0) (v := 0) (by decide +kernel) (by decide)) (
  e_more (s_jret (by decide +kernel) rfl) (
  e_no_more)))))))))))))))))))))))))))))))))))))
def w_X0_whyNoLoan : eW := e_sf 1 (e_rn tb_X0_whyNoLoan (iL i_X0_whyNoLoan) 0 0)
theorem k_X0_whyNoLoan : e_OK e_rf i_X0_whyNoLoan 0 0 w_X0_whyNoLoan := k_sf (k_rn (own := RX0) ⟨by decide +kernel, rfl⟩ st_X0_whyNoLoan)
abbrev i_X0_tryLend : eI := (yX0_tryLend, cX0_tryLend, 5, (some .boolean), 3)
theorem cl_X0_tryLend : e_Cl i_X0_tryLend 2 := ⟨wd_956, wd_16, ⟨by decide, by decide⟩, by decide +kernel, by decide⟩
def tb_X0_tryLend_0 : eTb := [(0, t_ldO 0 1 0), (1, t_ldI 1 1 1), (2, t_call0 2 w_X0_instrumentAt 2), (5, t_stO 3 1 5), (6, t_ldO 0 1 6), (7, t_ldI 2 1 7), (8, t_call0 2 w_X0_pupilAt 8), (11, t_stO 4 2 11), (13, t_ldO 3 1 13), (14, t_null 32 14), (17, t_ldO 4 2 17), (19, t_null 32 19), (22, t_ldO 0 1 22), (23, t_ldO 3 1 23), (24, t_ldO 4 2 24), (26, t_call0 3 w_X0_whyNoLoan 26), (29, t_if (fun a => a = 0) 34 29), (32, t_push (.inl 0) 1 32), (33, t_zret), (34, t_ldO 3 1 34), (35, t_ldI 2 1 35), (36, t_putI 1 2 36), (39, t_ldO 3 1 39), (40, t_ldO 3 1 40), (41, t_getI 1 1 41), (44, t_putI 1 3 44), (47, t_ldO 4 2 47), (49, t_ldI 1 1 49), (50, t_putI 2 4 50), (53, t_ldO 0 1 53), (54, t_getI 0 5 54), (57, t_if (fun a => a < 0) 92 57), (60, t_ldO 0 1 60), (61, t_getI 0 5 61), (64, t_ldO 0 1 64), (65, t_getR e_rf 0 4 65), (68, t_alen 68), (69, t_ic (fun a b => b ≤ a) 92 69), (72, t_ldO 0 1 72), (73, t_getR e_rf 0 4 73)]
theorem st_X0_tryLend_0 : ∀ x ∈ tb_X0_tryLend_0, e_Sd e_rf RX0 i_X0_tryLend x.1 x.2 :=
  e_more (s_aload_n (k := 0) (by decide +kernel) rfl) (
  e_more (s_iload_n (k := 1) (by decide +kernel) rfl) (
  e_more (e_call0 (s_callV (c := 0) (idx := 97) k_X0_instrumentAt (by decide +kernel) cl_X0_instrumentAt (by decide) rfl wd_810 wd_339 wd_340 (by decide) (e_sf_rec rfl))) (
  e_more (s_astore_n (k := 3) (by decide +kernel) rfl (by decide)) (
  e_more (s_aload_n (k := 0) (by decide +kernel) rfl) (
  e_more (s_iload_n (k := 2) (by decide +kernel) rfl) (
  e_more (e_call0 (s_callV (c := 0) (idx := 89) k_X0_pupilAt (by decide +kernel) cl_X0_pupilAt (by decide) rfl wd_768 wd_331 wd_332 (by decide) (e_sf_rec rfl))) (
  e_more (s_astore (by decide +kernel) (by decide)) (
  e_more (s_aload_n (k := 3) (by decide +kernel) rfl) (
  e_more (s_ifnull (off := 18) (by decide +kernel) (by decide)) (
  e_more (s_aload (by decide +kernel)) (
  e_more (s_ifnull (off := 13) (by decide +kernel) (by decide)) (
  e_more (s_aload_n (k := 0) (by decide +kernel) rfl) (
  e_more (s_aload_n (k := 3) (by decide +kernel) rfl) (
  e_more (s_aload (by decide +kernel)) (
  e_more (e_call0 (s_callV (c := 0) (idx := 129) k_X0_whyNoLoan (by decide +kernel) cl_X0_whyNoLoan (by decide) rfl wd_957 wd_854 wd_855 (by decide) (e_sf_rec rfl))) (
  e_more (s_if_eq (off := 5) (by decide +kernel) (by decide)) (
  e_more (s_iconst (n := 0) (v := 0) (by decide +kernel) (by decide)) (
  e_more (s_zret (by decide +kernel) rfl) (
  e_more (s_aload_n (k := 3) (by decide +kernel) rfl) (
  e_more (s_iload_n (k := 2) (by decide +kernel) rfl) (
  e_more (s_putI (c := 1) (j := 2) (idx := 133) (by decide +kernel) (by decide) (by decide) rfl rfl wd_107) (
  e_more (s_aload_n (k := 3) (by decide +kernel) rfl) (
  e_more (s_aload_n (k := 3) (by decide +kernel) rfl) (
  e_more (s_getI (c := 1) (j := 1) (idx := 136) (by decide +kernel) (by decide) (by decide) rfl wd_105) (
  e_more (s_putI (c := 1) (j := 3) (idx := 139) (by decide +kernel) (by decide) (by decide) rfl rfl wd_109) (
  e_more (s_aload (by decide +kernel)) (
  e_more (s_iload_n (k := 1) (by decide +kernel) rfl) (
  e_more (s_putI (c := 2) (j := 4) (idx := 110) (by decide +kernel) (by decide) (by decide) rfl rfl wd_73) (
  e_more (s_aload_n (k := 0) (by decide +kernel) rfl) (
  e_more (s_getI (c := 0) (j := 5) (idx := 34) (by decide +kernel) (by decide) (by decide) rfl wd_128) (
  e_more (s_if_lt (off := 35) (by decide +kernel) (by decide)) (
  e_more (s_aload_n (k := 0) (by decide +kernel) rfl) (
  e_more (s_getI (c := 0) (j := 5) (idx := 34) (by decide +kernel) (by decide) (by decide) rfl wd_128) (
  e_more (s_aload_n (k := 0) (by decide +kernel) rfl) (
  e_more (s_getR (c := 0) (j := 4) (idx := 30) (by decide +kernel) (by decide) (by decide) rfl wd_127) (
  e_more (s_alen (by decide +kernel)) (
  e_more (s_ic_ge (off := 23) (by decide +kernel) (by decide)) (
  e_more (s_aload_n (k := 0) (by decide +kernel) rfl) (
  e_more (s_getR (c := 0) (j := 4) (idx := 30) (by decide +kernel) (by decide) (by decide) rfl wd_127) (
  e_no_more))))))))))))))))))))))))))))))))))))))))
def tb_X0_tryLend_1 : eTb := [(76, t_ldO 0 1 76), (77, t_getI 0 5 77), (80, t_ldI 1 1 80), (81, t_iast 81), (82, t_ldO 0 1 82), (83, t_dup 83), (84, t_getI 0 5 84), (87, t_push (.inl 1) 1 87), (88, t_ii (fun a b => a + b) 88), (89, t_putI 0 5 89), (92, t_push (.inl 1) 1 92), (93, t_zret)]
theorem st_X0_tryLend_1 : ∀ x ∈ tb_X0_tryLend_1, e_Sd e_rf RX0 i_X0_tryLend x.1 x.2 :=
  e_more (s_aload_n (k := 0) (by decide +kernel) rfl) (
  e_more (s_getI (c := 0) (j := 5) (idx := 34) (by decide +kernel) (by decide) (by decide) rfl wd_128) (
  e_more (s_iload_n (k := 1) (by decide +kernel) rfl) (
  e_more (s_iast (by decide +kernel)) (
  e_more (s_aload_n (k := 0) (by decide +kernel) rfl) (
  e_more (s_dup (by decide +kernel)) (
  e_more (s_getI (c := 0) (j := 5) (idx := 34) (by decide +kernel) (by decide) (by decide) rfl wd_128) (
  e_more (s_iconst (n := 1) (v := 1) (by decide +kernel) (by decide)) (
  e_more (s_iadd (by decide +kernel)) (
  e_more (s_putI (c := 0) (j := 5) (idx := 34) (by decide +kernel) (by decide) (by decide) rfl rfl wd_128) (
  e_more (s_iconst (n := 1) (v := 1) (by decide +kernel) (by decide)) (
  e_more (s_zret (by decide +kernel) rfl) (
  e_no_more))))))))))))
def tb_X0_tryLend : eTb := tb_X0_tryLend_0 ++ tb_X0_tryLend_1
theorem st_X0_tryLend : ∀ x ∈ tb_X0_tryLend, e_Sd e_rf RX0 i_X0_tryLend x.1 x.2 := e_app (st_X0_tryLend_0) st_X0_tryLend_1
def w_X0_tryLend : eW := e_sf 1 (e_rn tb_X0_tryLend (iL i_X0_tryLend) 0 0)
theorem k_X0_tryLend : e_OK e_rf i_X0_tryLend 0 0 w_X0_tryLend := k_sf (k_rn (own := RX0) ⟨by decide +kernel, rfl⟩ st_X0_tryLend)
abbrev i_X0_billFor : eI := (yX0_billFor, cX0_billFor, 2, (some .int), 2)
theorem cl_X0_billFor : e_Cl i_X0_billFor 1 := ⟨wd_970, wd_16, ⟨by decide, by decide⟩, by decide +kernel, by decide⟩
def tb_X0_billFor : eTb := [(0, t_ldO 0 1 0), (1, t_push (.inl 0) 1 1), (2, t_call0 2 w_X0_settingAt 2), (5, t_ldO 1 1 5), (6, t_call0 1 w_X1_dentsSinceLent 6), (9, t_ii (fun a b => a * b) 9), (10, t_jret)]
theorem st_X0_billFor : ∀ x ∈ tb_X0_billFor, e_Sd e_rf RX0 i_X0_billFor x.1 x.2 :=
  e_more (s_aload_n (k := 0) (by decide +kernel) rfl) (
  e_more (s_iconst (n := 0) (v := 0) (by decide +kernel) (by decide)) (
  e_more (e_call0 (s_callV (c := 0) (idx := 119) k_X0_settingAt (by decide +kernel) cl_X0_settingAt (by decide) rfl wd_858 wd_384 wd_385 (by decide) (e_sf_rec rfl))) (
  e_more (s_aload_n (k := 1) (by decide +kernel) rfl) (
  e_more (e_call0 (s_callV (c := 1) (idx := 142) k_X1_dentsSinceLent (by decide +kernel) cl_X1_dentsSinceLent (by decide) rfl wd_971 wd_794 wd_795 (by decide) (e_sf_rec rfl))) (
  e_more (s_imul (by decide +kernel)) (
  e_more (s_jret (by decide +kernel) rfl) (
  e_no_more)))))))
def w_X0_billFor : eW := e_sf 1 (e_rn tb_X0_billFor (iL i_X0_billFor) 0 0)
theorem k_X0_billFor : e_OK e_rf i_X0_billFor 0 0 w_X0_billFor := k_sf (k_rn (own := RX0) ⟨by decide +kernel, rfl⟩ st_X0_billFor)
abbrev i_X0_dropLoan : eI := (yX0_dropLoan, cX0_dropLoan, 4, none, 0)
theorem cl_X0_dropLoan : e_Cl i_X0_dropLoan 1 := ⟨wd_980, wd_16, ⟨by decide, by decide⟩, by decide +kernel, by decide⟩
def tb_X0_dropLoan : eTb := [(0, t_push (.inl 0) 1 0), (1, t_stI 2 1 1), (2, t_push (.inl 0) 1 2), (3, t_stI 3 1 3), (4, t_ldI 3 1 4), (5, t_ldO 0 1 5), (6, t_getI 0 5 6), (9, t_ic (fun a b => b ≤ a) 52 9), (12, t_ldI 3 1 12), (13, t_ldO 0 1 13), (14, t_getR e_rf 0 4 14), (17, t_alen 17), (18, t_ic (fun a b => b ≤ a) 52 18), (21, t_ldO 0 1 21), (22, t_getR e_rf 0 4 22), (25, t_ldI 3 1 25), (26, t_iald 26), (27, t_ldI 1 1 27), (28, t_ic (fun a b => a = b) 46 28), (31, t_ldO 0 1 31), (32, t_getR e_rf 0 4 32), (35, t_ldI 2 1 35), (36, t_ldO 0 1 36), (37, t_getR e_rf 0 4 37), (40, t_ldI 3 1 40), (41, t_iald 41), (42, t_iast 42), (43, t_iinc 2 1 43), (46, t_iinc 3 1 46), (49, t_goto 4), (52, t_ldO 0 1 52), (53, t_ldI 2 1 53), (54, t_putI 0 5 54), (57, t_ret)]
theorem st_X0_dropLoan : ∀ x ∈ tb_X0_dropLoan, e_Sd e_rf RX0 i_X0_dropLoan x.1 x.2 :=
  e_more (s_iconst (n := 0) (v := 0) (by decide +kernel) (by decide)) (
  e_more (s_istore_n (k := 2) (by decide +kernel) rfl (by decide)) (
  e_more (s_iconst (n := 0) (v := 0) (by decide +kernel) (by decide)) (
  e_more (s_istore_n (k := 3) (by decide +kernel) rfl (by decide)) (
  e_more (s_iload_n (k := 3) (by decide +kernel) rfl) (
  e_more (s_aload_n (k := 0) (by decide +kernel) rfl) (
  e_more (s_getI (c := 0) (j := 5) (idx := 34) (by decide +kernel) (by decide) (by decide) rfl wd_128) (
  e_more (s_ic_ge (off := 43) (by decide +kernel) (by decide)) (
  e_more (s_iload_n (k := 3) (by decide +kernel) rfl) (
  e_more (s_aload_n (k := 0) (by decide +kernel) rfl) (
  e_more (s_getR (c := 0) (j := 4) (idx := 30) (by decide +kernel) (by decide) (by decide) rfl wd_127) (
  e_more (s_alen (by decide +kernel)) (
  e_more (s_ic_ge (off := 34) (by decide +kernel) (by decide)) (
  e_more (s_aload_n (k := 0) (by decide +kernel) rfl) (
  e_more (s_getR (c := 0) (j := 4) (idx := 30) (by decide +kernel) (by decide) (by decide) rfl wd_127) (
  e_more (s_iload_n (k := 3) (by decide +kernel) rfl) (
  e_more (s_iald (by decide +kernel)) (
  e_more (s_iload_n (k := 1) (by decide +kernel) rfl) (
  e_more (s_ic_eq (off := 18) (by decide +kernel) (by decide)) (
  e_more (s_aload_n (k := 0) (by decide +kernel) rfl) (
  e_more (s_getR (c := 0) (j := 4) (idx := 30) (by decide +kernel) (by decide) (by decide) rfl wd_127) (
  e_more (s_iload_n (k := 2) (by decide +kernel) rfl) (
  e_more (s_aload_n (k := 0) (by decide +kernel) rfl) (
  e_more (s_getR (c := 0) (j := 4) (idx := 30) (by decide +kernel) (by decide) (by decide) rfl wd_127) (
  e_more (s_iload_n (k := 3) (by decide +kernel) rfl) (
  e_more (s_iald (by decide +kernel)) (
  e_more (s_iast (by decide +kernel)) (
  e_more (s_iinc (z := 1) (n := 1) (by decide +kernel) (by decide) (by decide)) (
  e_more (s_iinc (z := 1) (n := 1) (by decide +kernel) (by decide) (by decide)) (
  e_more (s_goto (off := (-45)) (by decide +kernel) (by decide)) (
  e_more (s_aload_n (k := 0) (by decide +kernel) rfl) (
  e_more (s_iload_n (k := 2) (by decide +kernel) rfl) (
  e_more (s_putI (c := 0) (j := 5) (idx := 34) (by decide +kernel) (by decide) (by decide) rfl rfl wd_128) (
  e_more (s_ret (by decide +kernel) rfl) (
  e_no_more))))))))))))))))))))))))))))))))))
def w_X0_dropLoan : eW := e_sf 1 (e_rn tb_X0_dropLoan (iL i_X0_dropLoan) 0 0)
theorem k_X0_dropLoan : e_OK e_rf i_X0_dropLoan 0 0 w_X0_dropLoan := k_sf (k_rn (own := RX0) ⟨by decide +kernel, rfl⟩ st_X0_dropLoan)
abbrev i_X0_tryBack : eI := (yX0_tryBack, cX0_tryBack, 4, (some .boolean), 3)
theorem cl_X0_tryBack : e_Cl i_X0_tryBack 1 := ⟨wd_975, wd_16, ⟨by decide, by decide⟩, by decide +kernel, by decide⟩
def tb_X0_tryBack : eTb := [(0, t_ldO 0 1 0), (1, t_ldI 1 1 1), (2, t_call0 2 w_X0_instrumentAt 2), (5, t_stO 2 1 5), (6, t_ldO 2 1 6), (7, t_null 17 7), (10, t_ldO 2 1 10), (11, t_call0 1 w_X1_isLent 11), (14, t_ifn (fun a => a = 0) 19 14), (17, t_push (.inl 0) 1 17), (18, t_zret), (19, t_ldO 0 1 19), (20, t_ldO 2 1 20), (21, t_getI 1 2 21), (24, t_call0 2 w_X0_pupilAt 24), (27, t_stO 3 1 27), (28, t_ldO 3 1 28), (29, t_null 51 29), (32, t_ldO 3 1 32), (33, t_dup 33), (34, t_getI 2 3 34), (37, t_ldO 0 1 37), (38, t_ldO 2 1 38), (39, t_call0 2 w_X0_billFor 39), (42, t_ii (fun a b => a + b) 42), (43, t_putI 2 3 43), (46, t_ldO 3 1 46), (47, t_push (.inl (-1)) 1 47), (48, t_putI 2 4 48), (51, t_ldO 2 1 51), (52, t_push (.inl (-1)) 1 52), (53, t_putI 1 2 53), (56, t_ldO 0 1 56), (57, t_ldI 1 1 57), (58, t_call0 2 w_X0_dropLoan 58), (61, t_push (.inl 1) 1 61), (62, t_zret)]
theorem st_X0_tryBack : ∀ x ∈ tb_X0_tryBack, e_Sd e_rf RX0 i_X0_tryBack x.1 x.2 :=
  e_more (s_aload_n (k := 0) (by decide +kernel) rfl) (
  e_more (s_iload_n (k := 1) (by decide +kernel) rfl) (
  e_more (e_call0 (s_callV (c := 0) (idx := 97) k_X0_instrumentAt (by decide +kernel) cl_X0_instrumentAt (by decide) rfl wd_810 wd_339 wd_340 (by decide) (e_sf_rec rfl))) (
  e_more (s_astore_n (k := 2) (by decide +kernel) rfl (by decide)) (
  e_more (s_aload_n (k := 2) (by decide +kernel) rfl) (
  e_more (s_ifnull (off := 10) (by decide +kernel) (by decide)) (
  e_more (s_aload_n (k := 2) (by decide +kernel) rfl) (
  e_more (e_call0 (s_callV (c := 1) (idx := 106) k_X1_isLent (by decide +kernel) cl_X1_isLent (by decide) rfl wd_857 wd_790 wd_791 (by decide) (e_sf_rec rfl))) (
  e_more (s_if_ne (off := 5) (by decide +kernel) (by decide)) (
  e_more (s_iconst (n := 0) (v := 0) (by decide +kernel) (by decide)) (
  e_more (s_zret (by decide +kernel) rfl) (
  e_more (s_aload_n (k := 0) (by decide +kernel) rfl) (
  e_more (s_aload_n (k := 2) (by decide +kernel) rfl) (
  e_more (s_getI (c := 1) (j := 2) (idx := 133) (by decide +kernel) (by decide) (by decide) rfl wd_107) (
  e_more (e_call0 (s_callV (c := 0) (idx := 89) k_X0_pupilAt (by decide +kernel) cl_X0_pupilAt (by decide) rfl wd_768 wd_331 wd_332 (by decide) (e_sf_rec rfl))) (
  e_more (s_astore_n (k := 3) (by decide +kernel) rfl (by decide)) (
  e_more (s_aload_n (k := 3) (by decide +kernel) rfl) (
  e_more (s_ifnull (off := 22) (by decide +kernel) (by decide)) (
  e_more (s_aload_n (k := 3) (by decide +kernel) rfl) (
  e_more (s_dup (by decide +kernel)) (
  e_more (s_getI (c := 2) (j := 3) (idx := 116) (by decide +kernel) (by decide) (by decide) rfl wd_71) (
  e_more (s_aload_n (k := 0) (by decide +kernel) rfl) (
  e_more (s_aload_n (k := 2) (by decide +kernel) rfl) (
  e_more (e_call0 (s_callV (c := 0) (idx := 146) k_X0_billFor (by decide +kernel) cl_X0_billFor (by decide) rfl wd_976 wd_968 wd_969 (by decide) (e_sf_rec rfl))) (
  e_more (s_iadd (by decide +kernel)) (
  e_more (s_putI (c := 2) (j := 3) (idx := 116) (by decide +kernel) (by decide) (by decide) rfl rfl wd_71) (
  e_more (s_aload_n (k := 3) (by decide +kernel) rfl) (
  e_more (s_iconst (n := (-1)) (v := (-1)) (by decide +kernel) (by decide)) (
  e_more (s_putI (c := 2) (j := 4) (idx := 110) (by decide +kernel) (by decide) (by decide) rfl rfl wd_73) (
  e_more (s_aload_n (k := 2) (by decide +kernel) rfl) (
  e_more (s_iconst (n := (-1)) (v := (-1)) (by decide +kernel) (by decide)) (
  e_more (s_putI (c := 1) (j := 2) (idx := 133) (by decide +kernel) (by decide) (by decide) rfl rfl wd_107) (
  e_more (s_aload_n (k := 0) (by decide +kernel) rfl) (
  e_more (s_iload_n (k := 1) (by decide +kernel) rfl) (
  e_more (e_call0 (s_callV (c := 0) (idx := 150) k_X0_dropLoan (by decide +kernel) cl_X0_dropLoan (by decide) rfl wd_977 wd_979 wd_12 (by decide) (e_sf_rec rfl))) (
  e_more (s_iconst (n := 1) (v := 1) (by decide +kernel) (by decide)) (
  e_more (s_zret (by decide +kernel) rfl) (
  e_no_more)))))))))))))))))))))))))))))))))))))
def w_X0_tryBack : eW := e_sf 1 (e_rn tb_X0_tryBack (iL i_X0_tryBack) 0 0)
theorem k_X0_tryBack : e_OK e_rf i_X0_tryBack 0 0 w_X0_tryBack := k_sf (k_rn (own := RX0) ⟨by decide +kernel, rfl⟩ st_X0_tryBack)
abbrev i_X0_loanAt : eI := (yX0_loanAt, cX0_loanAt, 3, (some .int), 1)
theorem cl_X0_loanAt : e_Cl i_X0_loanAt 1 := ⟨wd_867, wd_16, ⟨by decide, by decide⟩, by decide +kernel, by decide⟩
def tb_X0_loanAt : eTb := [(0, t_ldI 1 1 0), (1, t_if (fun a => a < 0) 21 1), (4, t_ldI 1 1 4), (5, t_ldO 0 1 5), (6, t_getI 0 5 6), (9, t_ic (fun a b => b ≤ a) 21 9), (12, t_ldI 1 1 12), (13, t_ldO 0 1 13), (14, t_getR e_rf 0 4 14), (17, t_alen 17), (18, t_ic (fun a b => a < b) 23 18), (21, t_push (.inl (-1)) 1 21), (22, t_jret), (23, t_ldO 0 1 23), (24, t_ldO 0 1 24), (25, t_getR e_rf 0 4 25), (28, t_ldI 1 1 28), (29, t_iald 29), (30, t_call0 2 w_X0_instrumentAt 30), (33, t_stO 2 1 33), (34, t_ldO 2 1 34), (35, t_nonnull 42 35), (38, t_push (.inl (-1)) 1 38), (39, t_goto 56), (42, t_push (.inl 10) 2 42), (44, t_ldO 0 1 44), (45, t_getR e_rf 0 4 45), (48, t_ldI 1 1 48), (49, t_iald 49), (50, t_ii (fun a b => a * b) 50), (51, t_ldO 2 1 51), (52, t_getI 1 2 52), (55, t_ii (fun a b => a + b) 55), (56, t_jret)]
theorem st_X0_loanAt : ∀ x ∈ tb_X0_loanAt, e_Sd e_rf RX0 i_X0_loanAt x.1 x.2 :=
  e_more (s_iload_n (k := 1) (by decide +kernel) rfl) (
  e_more (s_if_lt (off := 20) (by decide +kernel) (by decide)) (
  e_more (s_iload_n (k := 1) (by decide +kernel) rfl) (
  e_more (s_aload_n (k := 0) (by decide +kernel) rfl) (
  e_more (s_getI (c := 0) (j := 5) (idx := 34) (by decide +kernel) (by decide) (by decide) rfl wd_128) (
  e_more (s_ic_ge (off := 12) (by decide +kernel) (by decide)) (
  e_more (s_iload_n (k := 1) (by decide +kernel) rfl) (
  e_more (s_aload_n (k := 0) (by decide +kernel) rfl) (
  e_more (s_getR (c := 0) (j := 4) (idx := 30) (by decide +kernel) (by decide) (by decide) rfl wd_127) (
  e_more (s_alen (by decide +kernel)) (
  e_more (s_ic_lt (off := 5) (by decide +kernel) (by decide)) (
  e_more (s_iconst (n := (-1)) (v := (-1)) (by decide +kernel) (by decide)) (
  e_more (s_jret (by decide +kernel) rfl) (
  e_more (s_aload_n (k := 0) (by decide +kernel) rfl) (
  e_more (s_aload_n (k := 0) (by decide +kernel) rfl) (
  e_more (s_getR (c := 0) (j := 4) (idx := 30) (by decide +kernel) (by decide) (by decide) rfl wd_127) (
  e_more (s_iload_n (k := 1) (by decide +kernel) rfl) (
  e_more (s_iald (by decide +kernel)) (
  e_more (e_call0 (s_callV (c := 0) (idx := 97) k_X0_instrumentAt (by decide +kernel) cl_X0_instrumentAt (by decide) rfl wd_810 wd_339 wd_340 (by decide) (e_sf_rec rfl))) (
  e_more (s_astore_n (k := 2) (by decide +kernel) rfl (by decide)) (
  e_more (s_aload_n (k := 2) (by decide +kernel) rfl) (
  e_more (s_ifnonnull (off := 7) (by decide +kernel) (by decide)) (
  e_more (s_iconst (n := (-1)) (v := (-1)) (by decide +kernel) (by decide)) (
  e_more (s_goto (off := 17) (by decide +kernel) (by decide)) (
  e_more (s_bipush (n := 10) (v := 10) (by decide +kernel) (by decide)) (
  e_more (s_aload_n (k := 0) (by decide +kernel) rfl) (
  e_more (s_getR (c := 0) (j := 4) (idx := 30) (by decide +kernel) (by decide) (by decide) rfl wd_127) (
  e_more (s_iload_n (k := 1) (by decide +kernel) rfl) (
  e_more (s_iald (by decide +kernel)) (
  e_more (s_imul (by decide +kernel)) (
  e_more (s_aload_n (k := 2) (by decide +kernel) rfl) (
  e_more (s_getI (c := 1) (j := 2) (idx := 133) (by decide +kernel) (by decide) (by decide) rfl wd_107) (
  e_more (s_iadd (by decide +kernel)) (
  e_more (s_jret (by decide +kernel) rfl) (
  e_no_more))))))))))))))))))))))))))))))))))
def w_X0_loanAt : eW := e_sf 1 (e_rn tb_X0_loanAt (iL i_X0_loanAt) 0 0)
theorem k_X0_loanAt : e_OK e_rf i_X0_loanAt 0 0 w_X0_loanAt := k_sf (k_rn (own := RX0) ⟨by decide +kernel, rfl⟩ st_X0_loanAt)
abbrev i_X0_tryMend : eI := (yX0_tryMend, cX0_tryMend, 4, (some .boolean), 1)
theorem cl_X0_tryMend : e_Cl i_X0_tryMend 1 := ⟨wd_996, wd_16, ⟨by decide, by decide⟩, by decide +kernel, by decide⟩
def tb_X0_tryMend : eTb := [(0, t_ldO 0 1 0), (1, t_ldI 1 1 1), (2, t_call0 2 w_X0_instrumentAt 2), (5, t_stO 2 1 5), (6, t_ldO 2 1 6), (7, t_null 17 7), (10, t_ldO 2 1 10), (11, t_call0 1 w_X1_isLent 11), (14, t_if (fun a => a = 0) 19 14), (17, t_push (.inl 0) 1 17), (18, t_zret), (19, t_ldO 2 1 19), (20, t_call0 1 w_X1_priceOfRepair 20), (23, t_stI 3 1 23), (24, t_ldO 0 1 24), (25, t_dup 25), (26, t_getI 0 16 26), (29, t_ldI 3 1 29), (30, t_ii (fun a b => a + b) 30), (31, t_putI 0 16 31), (34, t_ldO 0 1 34), (35, t_dup 35), (36, t_getI 0 12 36), (39, t_ldI 3 1 39), (40, t_ii (fun a b => a - b) 40), (41, t_putI 0 12 41), (44, t_ldO 2 1 44), (45, t_push (.inl 0) 1 45), (46, t_putI 1 1 46), (49, t_push (.inl 1) 1 49), (50, t_zret)]
theorem st_X0_tryMend : ∀ x ∈ tb_X0_tryMend, e_Sd e_rf RX0 i_X0_tryMend x.1 x.2 :=
  e_more (s_aload_n (k := 0) (by decide +kernel) rfl) (
  e_more (s_iload_n (k := 1) (by decide +kernel) rfl) (
  e_more (e_call0 (s_callV (c := 0) (idx := 97) k_X0_instrumentAt (by decide +kernel) cl_X0_instrumentAt (by decide) rfl wd_810 wd_339 wd_340 (by decide) (e_sf_rec rfl))) (
  e_more (s_astore_n (k := 2) (by decide +kernel) rfl (by decide)) (
  e_more (s_aload_n (k := 2) (by decide +kernel) rfl) (
  e_more (s_ifnull (off := 10) (by decide +kernel) (by decide)) (
  e_more (s_aload_n (k := 2) (by decide +kernel) rfl) (
  e_more (e_call0 (s_callV (c := 1) (idx := 106) k_X1_isLent (by decide +kernel) cl_X1_isLent (by decide) rfl wd_857 wd_790 wd_791 (by decide) (e_sf_rec rfl))) (
  e_more (s_if_eq (off := 5) (by decide +kernel) (by decide)) (
  e_more (s_iconst (n := 0) (v := 0) (by decide +kernel) (by decide)) (
  e_more (s_zret (by decide +kernel) rfl) (
  e_more (s_aload_n (k := 2) (by decide +kernel) rfl) (
  e_more (e_call0 (s_callV (c := 1) (idx := 153) k_X1_priceOfRepair (by decide +kernel) cl_X1_priceOfRepair (by decide) rfl wd_997 wd_990 wd_991 (by decide) (e_sf_rec rfl))) (
  e_more (s_istore_n (k := 3) (by decide +kernel) rfl (by decide)) (
  e_more (s_aload_n (k := 0) (by decide +kernel) rfl) (
  e_more (s_dup (by decide +kernel)) (
  e_more (s_getI (c := 0) (j := 16) (idx := 68) (by decide +kernel) (by decide) (by decide) rfl wd_143) (
  e_more (s_iload_n (k := 3) (by decide +kernel) rfl) (
  e_more (s_iadd (by decide +kernel)) (
  e_more (s_putI (c := 0) (j := 16) (idx := 68) (by decide +kernel) (by decide) (by decide) rfl rfl wd_143) (
  e_more (s_aload_n (k := 0) (by decide +kernel) rfl) (
  e_more (s_dup (by decide +kernel)) (
  e_more (s_getI (c := 0) (j := 12) (idx := 56) (by decide +kernel) (by decide) (by decide) rfl wd_139) (
  e_more (s_iload_n (k := 3) (by decide +kernel) rfl) (
  e_more (s_isub (by decide +kernel)) (
  e_more (s_putI (c := 0) (j := 12) (idx := 56) (by decide +kernel) (by decide) (by decide) rfl rfl wd_139) (
  e_more (s_aload_n (k := 2) (by decide +kernel) rfl) (
  e_more (s_iconst (n := 0) (v := 0) (by decide +kernel) (by decide)) (
  e_more (s_putI (c := 1) (j := 1) (idx := 136) (by decide +kernel) (by decide) (by decide) rfl rfl wd_105) (
  e_more (s_iconst (n := 1) (v := 1) (by decide +kernel) (by decide)) (
  e_more (s_zret (by decide +kernel) rfl) (
  e_no_more)))))))))))))))))))))))))))))))
def w_X0_tryMend : eW := e_sf 1 (e_rn tb_X0_tryMend (iL i_X0_tryMend) 0 0)
theorem k_X0_tryMend : e_OK e_rf i_X0_tryMend 0 0 w_X0_tryMend := k_sf (k_rn (own := RX0) ⟨by decide +kernel, rfl⟩ st_X0_tryMend)
abbrev i_X0_takePayment : eI := (yX0_takePayment, cX0_takePayment, 4, (some .int), 1)
theorem cl_X0_takePayment : e_Cl i_X0_takePayment 2 := ⟨wd_1016, wd_16, ⟨by decide, by decide⟩, by decide +kernel, by decide⟩
def tb_X0_takePayment : eTb := [(0, t_ldI 2 1 0), (1, t_ldO 1 1 1), (2, t_getI 2 3 2), (5, fun _ _ K lc st S bc bs => e_pI st fun b r => e_pI r fun a r => cond (Nat.ble (e_sz r) 8) (K (5 + 3) lc (.inl (if b < a then b else a) :: r) S bc bs) False), (8, t_stI 3 1 8), (9, t_ldO 1 1 9), (10, t_dup 10), (11, t_getI 2 3 11), (14, t_ldI 3 1 14), (15, t_ii (fun a b => a - b) 15), (16, t_putI 2 3 16), (19, t_ldO 0 1 19), (20, t_dup 20), (21, t_getI 0 14 21), (24, t_ldI 3 1 24), (25, t_ii (fun a b => a + b) 25), (26, t_putI 0 14 26), (29, t_ldO 0 1 29), (30, t_dup 30), (31, t_getI 0 12 31), (34, t_ldI 3 1 34), (35, t_ii (fun a b => a + b) 35), (36, t_putI 0 12 36), (39, t_ldI 3 1 39), (40, t_jret)]
theorem st_X0_takePayment : ∀ x ∈ tb_X0_takePayment, e_Sd e_rf RX0 i_X0_takePayment x.1 x.2 :=
  e_more (s_iload_n (k := 2) (by decide +kernel) rfl) (
  e_more (s_aload_n (k := 1) (by decide +kernel) rfl) (
  e_more (s_getI (c := 2) (j := 3) (idx := 116) (by decide +kernel) (by decide) (by decide) rfl wd_71) (
  e_more (s_min (idx := 156) (by decide +kernel) wd_1017 wd_493 wd_30 wd_494 (by decide)) (
  e_more (s_istore_n (k := 3) (by decide +kernel) rfl (by decide)) (
  e_more (s_aload_n (k := 1) (by decide +kernel) rfl) (
  e_more (s_dup (by decide +kernel)) (
  e_more (s_getI (c := 2) (j := 3) (idx := 116) (by decide +kernel) (by decide) (by decide) rfl wd_71) (
  e_more (s_iload_n (k := 3) (by decide +kernel) rfl) (
  e_more (s_isub (by decide +kernel)) (
  e_more (s_putI (c := 2) (j := 3) (idx := 116) (by decide +kernel) (by decide) (by decide) rfl rfl wd_71) (
  e_more (s_aload_n (k := 0) (by decide +kernel) rfl) (
  e_more (s_dup (by decide +kernel)) (
  e_more (s_getI (c := 0) (j := 14) (idx := 62) (by decide +kernel) (by decide) (by decide) rfl wd_141) (
  e_more (s_iload_n (k := 3) (by decide +kernel) rfl) (
  e_more (s_iadd (by decide +kernel)) (
  e_more (s_putI (c := 0) (j := 14) (idx := 62) (by decide +kernel) (by decide) (by decide) rfl rfl wd_141) (
  e_more (s_aload_n (k := 0) (by decide +kernel) rfl) (
  e_more (s_dup (by decide +kernel)) (
  e_more (s_getI (c := 0) (j := 12) (idx := 56) (by decide +kernel) (by decide) (by decide) rfl wd_139) (
  e_more (s_iload_n (k := 3) (by decide +kernel) rfl) (
  e_more (s_iadd (by decide +kernel)) (
  e_more (s_putI (c := 0) (j := 12) (idx := 56) (by decide +kernel) (by decide) (by decide) rfl rfl wd_139) (
  e_more (s_iload_n (k := 3) (by decide +kernel) rfl) (
  e_more (s_jret (by decide +kernel) rfl) (
  e_no_more)))))))))))))))))))))))))
def w_X0_takePayment : eW := e_sf 1 (e_rn tb_X0_takePayment (iL i_X0_takePayment) 0 0)
theorem k_X0_takePayment : e_OK e_rf i_X0_takePayment 0 0 w_X0_takePayment := k_sf (k_rn (own := RX0) ⟨by decide +kernel, rfl⟩ st_X0_takePayment)
abbrev i_X0_isSunday : eI := (yX0_isSunday, cX0_isSunday, 1, (some .boolean), 0)
theorem cl_X0_isSunday : e_Cl i_X0_isSunday 0 := ⟨wd_762, wd_16, ⟨by decide, by decide⟩, by decide +kernel, by decide⟩
def tb_X0_isSunday : eTb := [(0, t_ldO 0 1 0), (1, t_getI 0 7 1), (4, t_push (.inl 7) 2 4), (6, t_idv (fun a b => a - a / b * b) 6), (7, t_push (.inl 6) 2 7), (9, t_icn (fun a b => a = b) 16 9), (12, t_push (.inl 1) 1 12), (13, t_goto 17), (16, t_push (.inl 0) 1 16), (17, t_zret)]
theorem st_X0_isSunday : ∀ x ∈ tb_X0_isSunday, e_Sd e_rf RX0 i_X0_isSunday x.1 x.2 :=
  e_more (s_aload_n (k := 0) (by decide +kernel) rfl) (
  e_more (s_getI (c := 0) (j := 7) (idx := 40) (by decide +kernel) (by decide) (by decide) rfl wd_131) (
  e_more (s_bipush (n := 7) (v := 7) (by decide +kernel) (by decide)) (
  e_more (s_irem (by decide +kernel)) (
  e_more (s_bipush (n := 6) (v := 6) (by decide +kernel) (by decide)) (
  e_more (s_ic_ne (off := 7) (by decide +kernel) (by decide)) (
  e_more (s_iconst (n := 1) (v := 1) (by decide +kernel) (by decide)) (
  e_more (s_goto (off := 4) (by decide +kernel) (by decide)) (
  e_more (s_iconst (n := 0) (v := 0) (by decide +kernel) (by decide)) (
  e_more (s_zret (by decide +kernel) rfl) (
  e_no_more))))))))))
def w_X0_isSunday : eW := e_sf 1 (e_rn tb_X0_isSunday (iL i_X0_isSunday) 0 0)
theorem k_X0_isSunday : e_OK e_rf i_X0_isSunday 0 0 w_X0_isSunday := k_sf (k_rn (own := RX0) ⟨by decide +kernel, rfl⟩ st_X0_isSunday)
abbrev i_X0_passDay : eI := (yX0_passDay, cX0_passDay, 3, none, 1)
theorem cl_X0_passDay : e_Cl i_X0_passDay 0 := ⟨wd_1041, wd_16, ⟨by decide, by decide⟩, by decide +kernel, by decide⟩
def tb_X0_passDay : eTb := [(0, t_ldO 0 1 0), (1, t_dup 1), (2, t_getI 0 7 2), (5, t_push (.inl 1) 1 5), (6, t_ii (fun a b => a + b) 6), (7, t_putI 0 7 7), (10, t_ldO 0 1 10), (11, t_push (.inl 0) 1 11), (12, t_putN .boolean 0 8 12), (15, t_push (.inl 0) 1 15), (16, t_stI 1 1 16), (17, t_ldI 1 1 17), (18, t_ldO 0 1 18), (19, t_getI 0 1 19), (22, t_ic (fun a b => b ≤ a) 63 22), (25, t_ldO 0 1 25), (26, t_ldI 1 1 26), (27, t_call0 2 w_X0_pupilAt 27), (30, t_stO 2 1 30), (31, t_ldO 2 1 31), (32, t_null 57 32), (35, t_ldO 2 1 35), (36, t_ldO 2 1 36), (37, t_getI 2 0 37), (40, t_ldO 2 1 40), (41, t_getI 2 1 41), (44, t_push (.inl 4) 1 44), (45, t_ii (fun a b => a + b) 45), (46, fun _ _ K lc st S bc bs => e_pI st fun b r => e_pI r fun a r => cond (Nat.ble (e_sz r) 8) (K (46 + 3) lc (.inl (if b < a then b else a) :: r) S bc bs) False), (49, t_putI 2 1 49), (52, t_ldO 2 1 52), (53, t_push (.inl 0) 1 53), (54, t_putN .boolean 2 5 54), (57, t_iinc 1 1 57), (60, t_goto 17), (63, t_ret)]
theorem st_X0_passDay : ∀ x ∈ tb_X0_passDay, e_Sd e_rf RX0 i_X0_passDay x.1 x.2 :=
  e_more (s_aload_n (k := 0) (by decide +kernel) rfl) (
  e_more (s_dup (by decide +kernel)) (
  e_more (s_getI (c := 0) (j := 7) (idx := 40) (by decide +kernel) (by decide) (by decide) rfl wd_131) (
  e_more (s_iconst (n := 1) (v := 1) (by decide +kernel) (by decide)) (
  e_more (s_iadd (by decide +kernel)) (
  e_more (s_putI (c := 0) (j := 7) (idx := 40) (by decide +kernel) (by decide) (by decide) rfl rfl wd_131) (
  e_more (s_aload_n (k := 0) (by decide +kernel) rfl) (
  e_more (s_iconst (n := 0) (v := 0) (by decide +kernel) (by decide)) (
  e_more (s_putN (c := 0) (j := 8) (idx := 43) (by decide +kernel) (by decide) (by decide) rfl rfl rfl wd_133) (
  e_more (s_iconst (n := 0) (v := 0) (by decide +kernel) (by decide)) (
  e_more (s_istore_n (k := 1) (by decide +kernel) rfl (by decide)) (
  e_more (s_iload_n (k := 1) (by decide +kernel) rfl) (
  e_more (s_aload_n (k := 0) (by decide +kernel) rfl) (
  e_more (s_getI (c := 0) (j := 1) (idx := 17) (by decide +kernel) (by decide) (by decide) rfl wd_123) (
  e_more (s_ic_ge (off := 41) (by decide +kernel) (by decide)) (
  e_more (s_aload_n (k := 0) (by decide +kernel) rfl) (
  e_more (s_iload_n (k := 1) (by decide +kernel) rfl) (
  e_more (e_call0 (s_callV (c := 0) (idx := 89) k_X0_pupilAt (by decide +kernel) cl_X0_pupilAt (by decide) rfl wd_768 wd_331 wd_332 (by decide) (e_sf_rec rfl))) (
  e_more (s_astore_n (k := 2) (by decide +kernel) rfl (by decide)) (
  e_more (s_aload_n (k := 2) (by decide +kernel) rfl) (
  e_more (s_ifnull (off := 25) (by decide +kernel) (by decide)) (
  e_more (s_aload_n (k := 2) (by decide +kernel) rfl) (
  e_more (s_aload_n (k := 2) (by decide +kernel) rfl) (
  e_more (s_getI (c := 2) (j := 0) (idx := 123) (by decide +kernel) (by decide) (by decide) rfl wd_63) (
  e_more (s_aload_n (k := 2) (by decide +kernel) rfl) (
  e_more (s_getI (c := 2) (j := 1) (idx := 162) (by decide +kernel) (by decide) (by decide) rfl wd_65) (
  e_more (s_iconst (n := 4) (v := 4) (by decide +kernel) (by decide)) (
  e_more (s_iadd (by decide +kernel)) (
  e_more (s_min (idx := 156) (by decide +kernel) wd_1017 wd_493 wd_30 wd_494 (by decide)) (
  e_more (s_putI (c := 2) (j := 1) (idx := 162) (by decide +kernel) (by decide) (by decide) rfl rfl wd_65) (
  e_more (s_aload_n (k := 2) (by decide +kernel) rfl) (
  e_more (s_iconst (n := 0) (v := 0) (by decide +kernel) (by decide)) (
  e_more (s_putN (c := 2) (j := 5) (idx := 165) (by decide +kernel) (by decide) (by decide) rfl rfl rfl wd_76) (
  e_more (s_iinc (z := 1) (n := 1) (by decide +kernel) (by decide) (by decide)) (
  e_more (s_goto (off := (-43)) (by decide +kernel) (by decide)) (
  e_more (s_ret (by decide +kernel) rfl) (
  e_no_more))))))))))))))))))))))))))))))))))))
def w_X0_passDay : eW := e_sf 1 (e_rn tb_X0_passDay (iL i_X0_passDay) 0 0)
theorem k_X0_passDay : e_OK e_rf i_X0_passDay 0 0 w_X0_passDay := k_sf (k_rn (own := RX0) ⟨by decide +kernel, rfl⟩ st_X0_passDay)
abbrev i_X0_heightOf : eI := (yX0_heightOf, cX0_heightOf, 1, (some .int), 0)
theorem cl_X0_heightOf : e_Cl i_X0_heightOf 1 := ⟨wd_814, wd_16, ⟨by decide, by decide⟩, by decide +kernel, by decide⟩
def tb_X0_heightOf : eTb := [(0, t_ldI 0 1 0), (1, t_sw [(0, 28), (1, 31)] 34), (28, t_push (.inl 8) 2 28), (30, t_jret), (31, t_push (.inl 14) 2 31), (33, t_jret), (34, t_push (.inl 20) 2 34), (36, t_jret)]
theorem st_X0_heightOf : ∀ x ∈ tb_X0_heightOf, e_Sd e_rf RX0 i_X0_heightOf x.1 x.2 :=
  e_more (s_iload_n (k := 0) (by decide +kernel) rfl) (
  e_more (s_lookup (dflt := 33) (ps := #[(0, 27), (1, 30)]) (len := 27) (l := [(0, 28), (1, 31)]) (by decide +kernel) (by decide) (by decide +kernel) (fun z hz => by simp [Op.lookupswitch.offset] at hz ⊢; (repeat (split; omega)); rfl) (by decide)) (
  e_more (s_bipush (n := 8) (v := 8) (by decide +kernel) (by decide)) (
  e_more (s_jret (by decide +kernel) rfl) (
  e_more (s_bipush (n := 14) (v := 14) (by decide +kernel) (by decide)) (
  e_more (s_jret (by decide +kernel) rfl) (
  e_more (s_bipush (n := 20) (v := 20) (by decide +kernel) (by decide)) (
  e_more (s_jret (by decide +kernel) rfl) (
  e_no_more))))))))
def w_X0_heightOf : eW := e_rn tb_X0_heightOf (iL i_X0_heightOf) 0 0
theorem k_X0_heightOf : e_OK e_rf i_X0_heightOf 0 0 w_X0_heightOf := k_rn (own := RX0) ⟨by decide +kernel, rfl⟩ st_X0_heightOf
abbrev i_X0_feeOf : eI := (yX0_feeOf, cX0_feeOf, 1, (some .int), 0)
theorem cl_X0_feeOf : e_Cl i_X0_feeOf 1 := ⟨wd_1062, wd_16, ⟨by decide, by decide⟩, by decide +kernel, by decide⟩
def tb_X0_feeOf : eTb := [(0, t_ldI 0 1 0), (1, t_sw [(0, 28), (1, 31)] 34), (28, t_push (.inl 10) 2 28), (30, t_jret), (31, t_push (.inl 25) 2 31), (33, t_jret), (34, t_push (.inl 60) 2 34), (36, t_jret)]
theorem st_X0_feeOf : ∀ x ∈ tb_X0_feeOf, e_Sd e_rf RX0 i_X0_feeOf x.1 x.2 :=
  e_more (s_iload_n (k := 0) (by decide +kernel) rfl) (
  e_more (s_lookup (dflt := 33) (ps := #[(0, 27), (1, 30)]) (len := 27) (l := [(0, 28), (1, 31)]) (by decide +kernel) (by decide) (by decide +kernel) (fun z hz => by simp [Op.lookupswitch.offset] at hz ⊢; (repeat (split; omega)); rfl) (by decide)) (
  e_more (s_bipush (n := 10) (v := 10) (by decide +kernel) (by decide)) (
  e_more (s_jret (by decide +kernel) rfl) (
  e_more (s_bipush (n := 25) (v := 25) (by decide +kernel) (by decide)) (
  e_more (s_jret (by decide +kernel) rfl) (
  e_more (s_bipush (n := 60) (v := 60) (by decide +kernel) (by decide)) (
  e_more (s_jret (by decide +kernel) rfl) (
  e_no_more))))))))
def w_X0_feeOf : eW := e_rn tb_X0_feeOf (iL i_X0_feeOf) 0 0
theorem k_X0_feeOf : e_OK e_rf i_X0_feeOf 0 0 w_X0_feeOf := k_rn (own := RX0) ⟨by decide +kernel, rfl⟩ st_X0_feeOf
abbrev i_X0_breathOfLesson : eI := (yX0_breathOfLesson, cX0_breathOfLesson, 3, (some .int), 1)
theorem cl_X0_breathOfLesson : e_Cl i_X0_breathOfLesson 1 := ⟨wd_818, wd_16, ⟨by decide, by decide⟩, by decide +kernel, by decide⟩
def tb_X0_breathOfLesson : eTb := [(0, t_ldO 0 1 0), (1, t_ldO 1 1 1), (2, t_getI 2 4 2), (5, t_call0 2 w_X0_instrumentAt 5), (8, t_stO 2 1 8), (9, t_ldO 2 1 9), (10, t_nonnull 17 10), (13, t_push (.inl 3) 1 13), (14, t_goto 23), (17, t_push (.inl 3) 1 17), (18, t_ldO 2 1 18), (19, t_getI 1 0 19), (22, t_ii (fun a b => a + b) 22), (23, t_jret)]
theorem st_X0_breathOfLesson : ∀ x ∈ tb_X0_breathOfLesson, e_Sd e_rf RX0 i_X0_breathOfLesson x.1 x.2 :=
  e_more (s_aload_n (k := 0) (by decide +kernel) rfl) (
  e_more (s_aload_n (k := 1) (by decide +kernel) rfl) (
  e_more (s_getI (c := 2) (j := 4) (idx := 110) (by decide +kernel) (by decide) (by decide) rfl wd_73) (
  e_more (e_call0 (s_callV (c := 0) (idx := 97) k_X0_instrumentAt (by decide +kernel) cl_X0_instrumentAt (by decide) rfl wd_810 wd_339 wd_340 (by decide) (e_sf_rec rfl))) (
  e_more (s_astore_n (k := 2) (by decide +kernel) rfl (by decide)) (
  e_more (s_aload_n (k := 2) (by decide +kernel) rfl) (
  e_more (s_ifnonnull (off := 7) (by decide +kernel) (by decide)) (
  e_more (s_iconst (n := 3) (v := 3) (by decide +kernel) (by decide)) (
  e_more (s_goto (off := 9) (by decide +kernel) (by decide)) (
  e_more (s_iconst (n := 3) (v := 3) (by decide +kernel) (by decide)) (
  e_more (s_aload_n (k := 2) (by decide +kernel) rfl) (
  e_more (s_getI (c := 1) (j := 0) (idx := 126) (by decide +kernel) (by decide) (by decide) rfl wd_101) (
  e_more (s_iadd (by decide +kernel)) (
  e_more (s_jret (by decide +kernel) rfl) (
  e_no_more))))))))))))))
def w_X0_breathOfLesson : eW := e_sf 1 (e_rn tb_X0_breathOfLesson (iL i_X0_breathOfLesson) 0 0)
theorem k_X0_breathOfLesson : e_OK e_rf i_X0_breathOfLesson 0 0 w_X0_breathOfLesson := k_sf (k_rn (own := RX0) ⟨by decide +kernel, rfl⟩ st_X0_breathOfLesson)
abbrev i_X0_whyNoLesson : eI := (yX0_whyNoLesson, cX0_whyNoLesson, 4, (some .int), 2)
theorem cl_X0_whyNoLesson : e_Cl i_X0_whyNoLesson 2 := ⟨wd_809, wd_16, ⟨by decide, by decide⟩, by decide +kernel, by decide⟩
def tb_X0_whyNoLesson : eTb := [(0, t_ldO 0 1 0), (1, t_ldO 1 1 1), (2, t_getI 2 4 2), (5, t_call0 2 w_X0_instrumentAt 5), (8, t_stO 3 1 8), (9, t_ldO 3 1 9), (10, t_null 20 10), (13, t_ldO 3 1 13), (14, t_call0 1 w_X1_isPlayable 14), (17, t_ifn (fun a => a = 0) 22 17), (20, t_push (.inl 1) 1 20), (21, t_jret), (22, t_ldO 1 1 22), (23, t_getI 2 5 23), (26, t_if (fun a => a = 0) 31 26), (29, t_push (.inl 2) 1 29), (30, t_jret), (31, t_ldO 1 1 31), (32, t_getI 2 2 32), (35, t_ldI 2 1 35), (36, t_call0 1 w_X0_heightOf 36), (39, t_ic (fun a b => a < b) 44 39), (42, t_push (.inl 3) 1 42), (43, t_jret), (44, t_ldO 1 1 44), (45, t_getI 2 1 45), (48, t_ldO 0 1 48), (49, t_ldO 1 1 49), (50, t_call0 2 w_X0_breathOfLesson 50), (53, t_ic (fun a b => b ≤ a) 60 53), (56, t_push (.inl 4) 1 56), (57, t_goto 61), (60, t_push (.inl 0) 1 60), (61, t_jret)]
theorem st_X0_whyNoLesson : ∀ x ∈ tb_X0_whyNoLesson, e_Sd e_rf RX0 i_X0_whyNoLesson x.1 x.2 :=
  e_more (s_aload_n (k := 0) (by decide +kernel) rfl) (
  e_more (s_aload_n (k := 1) (by decide +kernel) rfl) (
  e_more (s_getI (c := 2) (j := 4) (idx := 110) (by decide +kernel) (by decide) (by decide) rfl wd_73) (
  e_more (e_call0 (s_callV (c := 0) (idx := 97) k_X0_instrumentAt (by decide +kernel) cl_X0_instrumentAt (by decide) rfl wd_810 wd_339 wd_340 (by decide) (e_sf_rec rfl))) (
  e_more (s_astore_n (k := 3) (by decide +kernel) rfl (by decide)) (
  e_more (s_aload_n (k := 3) (by decide +kernel) rfl) (
  e_more (s_ifnull (off := 10) (by decide +kernel) (by decide)) (
  e_more (s_aload_n (k := 3) (by decide +kernel) rfl) (
  e_more (e_call0 (s_callV (c := 1) (idx := 113) k_X1_isPlayable (by decide +kernel) cl_X1_isPlayable (by decide) rfl wd_811 wd_343 wd_344 (by decide) (e_sf_rec rfl))) (
  e_more (s_if_ne (off := 5) (by decide +kernel) (by decide)) (
  e_more (s_iconst (n := 1) (v := 1) (by decide +kernel) (by decide)) (
  e_more (s_jret (by decide +kernel) rfl) (
  e_more (s_aload_n (k := 1) (by decide +kernel) rfl) (
  e_more (s_getI (c := 2) (j := 5) (idx := 165) (by decide +kernel) (by decide) (by decide) rfl wd_76) (
  e_more (s_if_eq (off := 5) (by decide +kernel) (by decide)) (
  e_more (s_iconst (n := 2) (v := 2) (by decide +kernel) (by decide)) (
  e_more (s_jret (by decide +kernel) rfl) (
  e_more (s_aload_n (k := 1) (by decide +kernel) rfl) (
  e_more (s_getI (c := 2) (j := 2) (idx := 168) (by decide +kernel) (by decide) (by decide) rfl wd_69) (
  e_more (s_iload_n (k := 2) (by decide +kernel) rfl) (
  e_more (e_call0 (s_callS (idx := 171) k_X0_heightOf (by decide +kernel) cl_X0_heightOf wd_812 wd_813 (by decide))) (
  e_more (s_ic_lt (off := 5) (by decide +kernel) (by decide)) (
  e_more (s_iconst (n := 3) (v := 3) (by decide +kernel) (by decide)) (
  e_more (s_jret (by decide +kernel) rfl) (
  e_more (s_aload_n (k := 1) (by decide +kernel) rfl) (
  e_more (s_getI (c := 2) (j := 1) (idx := 162) (by decide +kernel) (by decide) (by decide) rfl wd_65) (
  e_more (s_aload_n (k := 0) (by decide +kernel) rfl) (
  e_more (s_aload_n (k := 1) (by decide +kernel) rfl) (
  e_more (e_call0 (s_callV (c := 0) (idx := 174) k_X0_breathOfLesson (by decide +kernel) cl_X0_breathOfLesson (by decide) rfl wd_815 wd_816 wd_817 (by decide) (e_sf_rec rfl))) (
  e_more (s_ic_ge (off := 7) (by decide +kernel) (by decide)) (
  e_more (s_iconst (n := 4) (v := 4) (by decide +kernel) (by decide)) (
  e_more (s_goto (off := 4) (by decide +kernel) (by decide)) (
  e_more (s_iconst (n := 0) (v := 0) (by decide +kernel) (by decide)) (
  e_more (s_jret (by decide +kernel) rfl) (
  e_no_more))))))))))))))))))))))))))))))))))
def w_X0_whyNoLesson : eW := e_sf 1 (e_rn tb_X0_whyNoLesson (iL i_X0_whyNoLesson) 0 0)
theorem k_X0_whyNoLesson : e_OK e_rf i_X0_whyNoLesson 0 0 w_X0_whyNoLesson := k_sf (k_rn (own := RX0) ⟨by decide +kernel, rfl⟩ st_X0_whyNoLesson)
abbrev i_X4_isTeacher : eI := (yX4_isTeacher, cX4_isTeacher, 1, (some .boolean), 0)
theorem cl_X4_isTeacher : e_Cl i_X4_isTeacher 1 := ⟨wd_804, wd_15, ⟨by decide, by decide⟩, by decide +kernel, by decide⟩
def tb_X4_isTeacher : eTb := [(0, t_ldI 0 1 0), (1, t_if (fun a => a < 0) 13 1), (4, t_ldI 0 1 4), (5, t_push (.inl 3) 1 5), (6, t_ic (fun a b => b ≤ a) 13 6), (9, t_push (.inl 1) 1 9), (10, t_goto 14), (13, t_push (.inl 0) 1 13), (14, t_zret)]
theorem st_X4_isTeacher : ∀ x ∈ tb_X4_isTeacher, e_Sd e_rf RX4 i_X4_isTeacher x.1 x.2 :=
  e_more (s_iload_n (k := 0) (by decide +kernel) rfl) (
  e_more (s_if_lt (off := 12) (by decide +kernel) (by decide)) (
  e_more (s_iload_n (k := 0) (by decide +kernel) rfl) (
  e_more (s_iconst (n := 3) (v := 3) (by decide +kernel) (by decide)) (
  e_more (s_ic_ge (off := 7) (by decide +kernel) (by decide)) (
  e_more (s_iconst (n := 1) (v := 1) (by decide +kernel) (by decide)) (
  e_more (s_goto (off := 4) (by decide +kernel) (by decide)) (
  e_more (s_iconst (n := 0) (v := 0) (by decide +kernel) (by decide)) (
  e_more (s_zret (by decide +kernel) rfl) (
  e_no_more)))))))))
def w_X4_isTeacher : eW := e_rn tb_X4_isTeacher (iL i_X4_isTeacher) 0 0
theorem k_X4_isTeacher : e_OK e_rf i_X4_isTeacher 0 0 w_X4_isTeacher := k_rn (own := RX4) ⟨by decide +kernel, rfl⟩ st_X4_isTeacher
abbrev i_X0_tryTeach : eI := (yX0_tryTeach, cX0_tryTeach, 4, (some .boolean), 3)
theorem cl_X0_tryTeach : e_Cl i_X0_tryTeach 2 := ⟨wd_1056, wd_16, ⟨by decide, by decide⟩, by decide +kernel, by decide⟩
def tb_X0_tryTeach_0 : eTb := [(0, t_ldO 0 1 0), (1, t_ldI 1 1 1), (2, t_call0 2 w_X0_pupilAt 2), (5, t_stO 3 1 5), (6, t_ldO 3 1 6), (7, t_null 26 7), (10, t_ldI 2 1 10), (11, t_call0 1 w_X4_isTeacher 11), (14, t_if (fun a => a = 0) 26 14), (17, t_ldO 0 1 17), (18, t_ldO 3 1 18), (19, t_ldI 2 1 19), (20, t_call0 3 w_X0_whyNoLesson 20), (23, t_if (fun a => a = 0) 28 23), (26, t_push (.inl 0) 1 26), (27, t_zret), (28, t_ldO 3 1 28), (29, t_push (.inl 1) 1 29), (30, t_ldO 0 1 30), (31, t_ldO 3 1 31), (32, t_call0 2 w_X0_breathOfLesson 32), (35, t_call0 3 w_X2_learn 35), (38, t_ldO 3 1 38), (39, t_push (.inl 1) 1 39), (40, t_putN .boolean 2 5 40), (43, t_ldO 0 1 43), (44, t_dup 44), (45, t_getI 0 9 45), (48, t_push (.inl 1) 1 48), (49, t_ii (fun a b => a + b) 49), (50, t_putI 0 9 50), (53, t_ldO 0 1 53), (54, t_dup 54), (55, t_getI 0 15 55), (58, t_ldI 2 1 58), (59, t_call0 1 w_X0_feeOf 59), (62, t_ii (fun a b => a + b) 62), (63, t_putI 0 15 63), (66, t_ldO 0 1 66), (67, t_dup 67)]
theorem st_X0_tryTeach_0 : ∀ x ∈ tb_X0_tryTeach_0, e_Sd e_rf RX0 i_X0_tryTeach x.1 x.2 :=
  e_more (s_aload_n (k := 0) (by decide +kernel) rfl) (
  e_more (s_iload_n (k := 1) (by decide +kernel) rfl) (
  e_more (e_call0 (s_callV (c := 0) (idx := 89) k_X0_pupilAt (by decide +kernel) cl_X0_pupilAt (by decide) rfl wd_768 wd_331 wd_332 (by decide) (e_sf_rec rfl))) (
  e_more (s_astore_n (k := 3) (by decide +kernel) rfl (by decide)) (
  e_more (s_aload_n (k := 3) (by decide +kernel) rfl) (
  e_more (s_ifnull (off := 19) (by decide +kernel) (by decide)) (
  e_more (s_iload_n (k := 2) (by decide +kernel) rfl) (
  e_more (e_call0 (s_callSN (idx := 178) k_X4_isTeacher (by decide +kernel) cl_X4_isTeacher (by decide +kernel) wd_803 (by decide))) (
  e_more (s_if_eq (off := 12) (by decide +kernel) (by decide)) (
  e_more (s_aload_n (k := 0) (by decide +kernel) rfl) (
  e_more (s_aload_n (k := 3) (by decide +kernel) rfl) (
  e_more (s_iload_n (k := 2) (by decide +kernel) rfl) (
  e_more (e_call0 (s_callV (c := 0) (idx := 181) k_X0_whyNoLesson (by decide +kernel) cl_X0_whyNoLesson (by decide) rfl wd_1058 wd_807 wd_808 (by decide) (e_sf_rec rfl))) (
  e_more (s_if_eq (off := 5) (by decide +kernel) (by decide)) (
  e_more (s_iconst (n := 0) (v := 0) (by decide +kernel) (by decide)) (
  e_more (s_zret (by decide +kernel) rfl) (
  e_more (s_aload_n (k := 3) (by decide +kernel) rfl) (
  e_more (s_iconst (n := 1) (v := 1) (by decide +kernel) (by decide)) (
  e_more (s_aload_n (k := 0) (by decide +kernel) rfl) (
  e_more (s_aload_n (k := 3) (by decide +kernel) rfl) (
  e_more (e_call0 (s_callV (c := 0) (idx := 174) k_X0_breathOfLesson (by decide +kernel) cl_X0_breathOfLesson (by decide) rfl wd_815 wd_816 wd_817 (by decide) (e_sf_rec rfl))) (
  e_more (e_call0 (s_callV (c := 2) (idx := 185) k_X2_learn (by decide +kernel) cl_X2_learn (by decide) rfl wd_1059 wd_837 wd_838 (by decide) (e_sf_rec rfl))) (
  e_more (s_aload_n (k := 3) (by decide +kernel) rfl) (
  e_more (s_iconst (n := 1) (v := 1) (by decide +kernel) (by decide)) (
  e_more (s_putN (c := 2) (j := 5) (idx := 165) (by decide +kernel) (by decide) (by decide) rfl rfl rfl wd_76) (
  e_more (s_aload_n (k := 0) (by decide +kernel) rfl) (
  e_more (s_dup (by decide +kernel)) (
  e_more (s_getI (c := 0) (j := 9) (idx := 47) (by decide +kernel) (by decide) (by decide) rfl wd_134) (
  e_more (s_iconst (n := 1) (v := 1) (by decide +kernel) (by decide)) (
  e_more (s_iadd (by decide +kernel)) (
  e_more (s_putI (c := 0) (j := 9) (idx := 47) (by decide +kernel) (by decide) (by decide) rfl rfl wd_134) (
  e_more (s_aload_n (k := 0) (by decide +kernel) rfl) (
  e_more (s_dup (by decide +kernel)) (
  e_more (s_getI (c := 0) (j := 15) (idx := 65) (by decide +kernel) (by decide) (by decide) rfl wd_142) (
  e_more (s_iload_n (k := 2) (by decide +kernel) rfl) (
  e_more (e_call0 (s_callS (idx := 189) k_X0_feeOf (by decide +kernel) cl_X0_feeOf wd_1060 wd_1061 (by decide))) (
  e_more (s_iadd (by decide +kernel)) (
  e_more (s_putI (c := 0) (j := 15) (idx := 65) (by decide +kernel) (by decide) (by decide) rfl rfl wd_142) (
  e_more (s_aload_n (k := 0) (by decide +kernel) rfl) (
  e_more (s_dup (by decide +kernel)) (
  e_no_more))))))))))))))))))))))))))))))))))))))))
def tb_X0_tryTeach_1 : eTb := [(68, t_getI 0 12 68), (71, t_ldI 2 1 71), (72, t_call0 1 w_X0_feeOf 72), (75, t_ii (fun a b => a - b) 75), (76, t_putI 0 12 76), (79, t_push (.inl 1) 1 79), (80, t_zret)]
theorem st_X0_tryTeach_1 : ∀ x ∈ tb_X0_tryTeach_1, e_Sd e_rf RX0 i_X0_tryTeach x.1 x.2 :=
  e_more (s_getI (c := 0) (j := 12) (idx := 56) (by decide +kernel) (by decide) (by decide) rfl wd_139) (
  e_more (s_iload_n (k := 2) (by decide +kernel) rfl) (
  e_more (e_call0 (s_callS (idx := 189) k_X0_feeOf (by decide +kernel) cl_X0_feeOf wd_1060 wd_1061 (by decide))) (
  e_more (s_isub (by decide +kernel)) (
  e_more (s_putI (c := 0) (j := 12) (idx := 56) (by decide +kernel) (by decide) (by decide) rfl rfl wd_139) (
  e_more (s_iconst (n := 1) (v := 1) (by decide +kernel) (by decide)) (
  e_more (s_zret (by decide +kernel) rfl) (
  e_no_more)))))))
def tb_X0_tryTeach : eTb := tb_X0_tryTeach_0 ++ tb_X0_tryTeach_1
theorem st_X0_tryTeach : ∀ x ∈ tb_X0_tryTeach, e_Sd e_rf RX0 i_X0_tryTeach x.1 x.2 := e_app (st_X0_tryTeach_0) st_X0_tryTeach_1
def w_X0_tryTeach : eW := e_sf 1 (e_rn tb_X0_tryTeach (iL i_X0_tryTeach) 0 0)
theorem k_X0_tryTeach : e_OK e_rf i_X0_tryTeach 0 0 w_X0_tryTeach := k_sf (k_rn (own := RX0) ⟨by decide +kernel, rfl⟩ st_X0_tryTeach)
abbrev i_X0_mayMarch : eI := (yX0_mayMarch, cX0_mayMarch, 1, (some .boolean), 1)
theorem cl_X0_mayMarch : e_Cl i_X0_mayMarch 0 := ⟨wd_1085, wd_16, ⟨by decide, by decide⟩, by decide +kernel, by decide⟩
def tb_X0_mayMarch : eTb := [(0, t_ldO 0 1 0), (1, t_call0 1 w_X0_isSunday 1), (4, t_if (fun a => a = 0) 18 4), (7, t_ldO 0 1 7), (8, t_getI 0 8 8), (11, t_ifn (fun a => a = 0) 18 11), (14, t_push (.inl 1) 1 14), (15, t_goto 19), (18, t_push (.inl 0) 1 18), (19, t_zret)]
theorem st_X0_mayMarch : ∀ x ∈ tb_X0_mayMarch, e_Sd e_rf RX0 i_X0_mayMarch x.1 x.2 :=
  e_more (s_aload_n (k := 0) (by decide +kernel) rfl) (
  e_more (e_call0 (s_callV (c := 0) (idx := 192) k_X0_isSunday (by decide +kernel) cl_X0_isSunday (by decide) rfl wd_759 wd_760 wd_761 (by decide) (e_sf_rec rfl))) (
  e_more (s_if_eq (off := 14) (by decide +kernel) (by decide)) (
  e_more (s_aload_n (k := 0) (by decide +kernel) rfl) (
  e_more (s_getI (c := 0) (j := 8) (idx := 43) (by decide +kernel) (by decide) (by decide) rfl wd_133) (
  e_more (s_if_ne (off := 7) (by decide +kernel) (by decide)) (
  e_more (s_iconst (n := 1) (v := 1) (by decide +kernel) (by decide)) (
  e_more (s_goto (off := 4) (by decide +kernel) (by decide)) (
  e_more (s_iconst (n := 0) (v := 0) (by decide +kernel) (by decide)) (
  e_more (s_zret (by decide +kernel) rfl) (
  e_no_more))))))))))
def w_X0_mayMarch : eW := e_sf 1 (e_rn tb_X0_mayMarch (iL i_X0_mayMarch) 0 0)
theorem k_X0_mayMarch : e_OK e_rf i_X0_mayMarch 0 0 w_X0_mayMarch := k_sf (k_rn (own := RX0) ⟨by decide +kernel, rfl⟩ st_X0_mayMarch)
abbrev i_X0_playPart : eI := (yX0_playPart, cX0_playPart, 5, none, 3)
theorem cl_X0_playPart : e_Cl i_X0_playPart 2 := ⟨wd_1094, wd_16, ⟨by decide, by decide⟩, by decide +kernel, by decide⟩
def tb_X0_playPart : eTb := [(0, t_ldO 0 1 0), (1, t_ldI 1 1 1), (2, t_call0 2 w_X0_pupilAt 2), (5, t_stO 3 1 5), (6, t_ldO 3 1 6), (7, t_nonnull 11 7), (10, t_ret), (11, t_ldO 3 1 11), (12, t_dup 12), (13, t_getI 2 1 13), (16, t_ldI 2 1 16), (17, t_ii (fun a b => a - b) 17), (18, t_putI 2 1 18), (21, t_ldO 3 1 21), (22, t_dup 22), (23, t_getI 2 6 23), (26, t_push (.inl 1) 1 26), (27, t_ii (fun a b => a + b) 27), (28, t_putI 2 6 28), (31, t_ldO 0 1 31), (32, t_ldO 3 1 32), (33, t_getI 2 4 33), (36, t_call0 2 w_X0_instrumentAt 36), (39, t_stO 4 2 39), (41, t_ldO 4 2 41), (43, t_null 51 43), (46, t_ldO 4 2 46), (48, t_call0 1 w_X1_playMarch 48), (51, t_ret)]
theorem st_X0_playPart : ∀ x ∈ tb_X0_playPart, e_Sd e_rf RX0 i_X0_playPart x.1 x.2 :=
  e_more (s_aload_n (k := 0) (by decide +kernel) rfl) (
  e_more (s_iload_n (k := 1) (by decide +kernel) rfl) (
  e_more (e_call0 (s_callV (c := 0) (idx := 89) k_X0_pupilAt (by decide +kernel) cl_X0_pupilAt (by decide) rfl wd_768 wd_331 wd_332 (by decide) (e_sf_rec rfl))) (
  e_more (s_astore_n (k := 3) (by decide +kernel) rfl (by decide)) (
  e_more (s_aload_n (k := 3) (by decide +kernel) rfl) (
  e_more (s_ifnonnull (off := 4) (by decide +kernel) (by decide)) (
  e_more (s_ret (by decide +kernel) rfl) (
  e_more (s_aload_n (k := 3) (by decide +kernel) rfl) (
  e_more (s_dup (by decide +kernel)) (
  e_more (s_getI (c := 2) (j := 1) (idx := 162) (by decide +kernel) (by decide) (by decide) rfl wd_65) (
  e_more (s_iload_n (k := 2) (by decide +kernel) rfl) (
  e_more (s_isub (by decide +kernel)) (
  e_more (s_putI (c := 2) (j := 1) (idx := 162) (by decide +kernel) (by decide) (by decide) rfl rfl wd_65) (
  e_more (s_aload_n (k := 3) (by decide +kernel) rfl) (
  e_more (s_dup (by decide +kernel)) (
  e_more (s_getI (c := 2) (j := 6) (idx := 195) (by decide +kernel) (by decide) (by decide) rfl wd_78) (
  e_more (s_iconst (n := 1) (v := 1) (by decide +kernel) (by decide)) (
  e_more (s_iadd (by decide +kernel)) (
  e_more (s_putI (c := 2) (j := 6) (idx := 195) (by decide +kernel) (by decide) (by decide) rfl rfl wd_78) (
  e_more (s_aload_n (k := 0) (by decide +kernel) rfl) (
  e_more (s_aload_n (k := 3) (by decide +kernel) rfl) (
  e_more (s_getI (c := 2) (j := 4) (idx := 110) (by decide +kernel) (by decide) (by decide) rfl wd_73) (
  e_more (e_call0 (s_callV (c := 0) (idx := 97) k_X0_instrumentAt (by decide +kernel) cl_X0_instrumentAt (by decide) rfl wd_810 wd_339 wd_340 (by decide) (e_sf_rec rfl))) (
  e_more (s_astore (by decide +kernel) (by decide)) (
  e_more (s_aload (by decide +kernel)) (
  e_more (s_ifnull (off := 8) (by decide +kernel) (by decide)) (
  e_more (s_aload (by decide +kernel)) (
  e_more (e_call0 (s_callV (c := 1) (idx := 196) k_X1_playMarch (by decide +kernel) cl_X1_playMarch (by decide) rfl wd_1095 wd_1096 wd_1097 (by decide) (e_sf_rec rfl))) (
  e_more (s_ret (by decide +kernel) rfl) (
  e_no_more)))))))))))))))))))))))))))))
def w_X0_playPart : eW := e_sf 1 (e_rn tb_X0_playPart (iL i_X0_playPart) 0 0)
theorem k_X0_playPart : e_OK e_rf i_X0_playPart 0 0 w_X0_playPart := k_sf (k_rn (own := RX0) ⟨by decide +kernel, rfl⟩ st_X0_playPart)
abbrev i_X0_endMarch : eI := (yX0_endMarch, cX0_endMarch, 3, none, 0)
theorem cl_X0_endMarch : e_Cl i_X0_endMarch 2 := ⟨wd_1103, wd_16, ⟨by decide, by decide⟩, by decide +kernel, by decide⟩
def tb_X0_endMarch : eTb := [(0, t_ldO 0 1 0), (1, t_push (.inl 1) 1 1), (2, t_putN .boolean 0 8 2), (5, t_ldO 0 1 5), (6, t_dup 6), (7, t_getI 0 10 7), (10, t_push (.inl 1) 1 10), (11, t_ii (fun a b => a + b) 11), (12, t_putI 0 10 12), (15, t_ldO 0 1 15), (16, t_dup 16), (17, t_getI 0 11 17), (20, t_ldI 1 1 20), (21, t_ii (fun a b => a + b) 21), (22, t_putI 0 11 22), (25, t_ldO 0 1 25), (26, t_dup 26), (27, t_getI 0 13 27), (30, t_ldI 2 1 30), (31, t_ii (fun a b => a + b) 31), (32, t_putI 0 13 32), (35, t_ldO 0 1 35), (36, t_dup 36), (37, t_getI 0 12 37), (40, t_ldI 2 1 40), (41, t_ii (fun a b => a + b) 41), (42, t_putI 0 12 42), (45, t_ret)]
theorem st_X0_endMarch : ∀ x ∈ tb_X0_endMarch, e_Sd e_rf RX0 i_X0_endMarch x.1 x.2 :=
  e_more (s_aload_n (k := 0) (by decide +kernel) rfl) (
  e_more (s_iconst (n := 1) (v := 1) (by decide +kernel) (by decide)) (
  e_more (s_putN (c := 0) (j := 8) (idx := 43) (by decide +kernel) (by decide) (by decide) rfl rfl rfl wd_133) (
  e_more (s_aload_n (k := 0) (by decide +kernel) rfl) (
  e_more (s_dup (by decide +kernel)) (
  e_more (s_getI (c := 0) (j := 10) (idx := 50) (by decide +kernel) (by decide) (by decide) rfl wd_135) (
  e_more (s_iconst (n := 1) (v := 1) (by decide +kernel) (by decide)) (
  e_more (s_iadd (by decide +kernel)) (
  e_more (s_putI (c := 0) (j := 10) (idx := 50) (by decide +kernel) (by decide) (by decide) rfl rfl wd_135) (
  e_more (s_aload_n (k := 0) (by decide +kernel) rfl) (
  e_more (s_dup (by decide +kernel)) (
  e_more (s_getI (c := 0) (j := 11) (idx := 53) (by decide +kernel) (by decide) (by decide) rfl wd_137) (
  e_more (s_iload_n (k := 1) (by decide +kernel) rfl) (
  e_more (s_iadd (by decide +kernel)) (
  e_more (s_putI (c := 0) (j := 11) (idx := 53) (by decide +kernel) (by decide) (by decide) rfl rfl wd_137) (
  e_more (s_aload_n (k := 0) (by decide +kernel) rfl) (
  e_more (s_dup (by decide +kernel)) (
  e_more (s_getI (c := 0) (j := 13) (idx := 59) (by decide +kernel) (by decide) (by decide) rfl wd_140) (
  e_more (s_iload_n (k := 2) (by decide +kernel) rfl) (
  e_more (s_iadd (by decide +kernel)) (
  e_more (s_putI (c := 0) (j := 13) (idx := 59) (by decide +kernel) (by decide) (by decide) rfl rfl wd_140) (
  e_more (s_aload_n (k := 0) (by decide +kernel) rfl) (
  e_more (s_dup (by decide +kernel)) (
  e_more (s_getI (c := 0) (j := 12) (idx := 56) (by decide +kernel) (by decide) (by decide) rfl wd_139) (
  e_more (s_iload_n (k := 2) (by decide +kernel) rfl) (
  e_more (s_iadd (by decide +kernel)) (
  e_more (s_putI (c := 0) (j := 12) (idx := 56) (by decide +kernel) (by decide) (by decide) rfl rfl wd_139) (
  e_more (s_ret (by decide +kernel) rfl) (
  e_no_more))))))))))))))))))))))))))))
def w_X0_endMarch : eW := e_sf 1 (e_rn tb_X0_endMarch (iL i_X0_endMarch) 0 0)
theorem k_X0_endMarch : e_OK e_rf i_X0_endMarch 0 0 w_X0_endMarch := k_sf (k_rn (own := RX0) ⟨by decide +kernel, rfl⟩ st_X0_endMarch)
abbrev i_X0_debtsTogether : eI := (yX0_debtsTogether, cX0_debtsTogether, 4, (some .int), 1)
theorem cl_X0_debtsTogether : e_Cl i_X0_debtsTogether 0 := ⟨wd_767, wd_16, ⟨by decide, by decide⟩, by decide +kernel, by decide⟩
def tb_X0_debtsTogether : eTb := [(0, t_push (.inl 0) 1 0), (1, t_stI 1 1 1), (2, t_push (.inl 0) 1 2), (3, t_stI 2 1 3), (4, t_ldI 2 1 4), (5, t_ldO 0 1 5), (6, t_getI 0 1 6), (9, t_ic (fun a b => b ≤ a) 39 9), (12, t_ldO 0 1 12), (13, t_ldI 2 1 13), (14, t_call0 2 w_X0_pupilAt 14), (17, t_stO 3 1 17), (18, t_ldI 1 1 18), (19, t_ldO 3 1 19), (20, t_nonnull 27 20), (23, t_push (.inl 0) 1 23), (24, t_goto 31), (27, t_ldO 3 1 27), (28, t_getI 2 3 28), (31, t_ii (fun a b => a + b) 31), (32, t_stI 1 1 32), (33, t_iinc 2 1 33), (36, t_goto 4), (39, t_ldI 1 1 39), (40, t_jret)]
theorem st_X0_debtsTogether : ∀ x ∈ tb_X0_debtsTogether, e_Sd e_rf RX0 i_X0_debtsTogether x.1 x.2 :=
  e_more (s_iconst (n := 0) (v := 0) (by decide +kernel) (by decide)) (
  e_more (s_istore_n (k := 1) (by decide +kernel) rfl (by decide)) (
  e_more (s_iconst (n := 0) (v := 0) (by decide +kernel) (by decide)) (
  e_more (s_istore_n (k := 2) (by decide +kernel) rfl (by decide)) (
  e_more (s_iload_n (k := 2) (by decide +kernel) rfl) (
  e_more (s_aload_n (k := 0) (by decide +kernel) rfl) (
  e_more (s_getI (c := 0) (j := 1) (idx := 17) (by decide +kernel) (by decide) (by decide) rfl wd_123) (
  e_more (s_ic_ge (off := 30) (by decide +kernel) (by decide)) (
  e_more (s_aload_n (k := 0) (by decide +kernel) rfl) (
  e_more (s_iload_n (k := 2) (by decide +kernel) rfl) (
  e_more (e_call0 (s_callV (c := 0) (idx := 89) k_X0_pupilAt (by decide +kernel) cl_X0_pupilAt (by decide) rfl wd_768 wd_331 wd_332 (by decide) (e_sf_rec rfl))) (
  e_more (s_astore_n (k := 3) (by decide +kernel) rfl (by decide)) (
  e_more (s_iload_n (k := 1) (by decide +kernel) rfl) (
  e_more (s_aload_n (k := 3) (by decide +kernel) rfl) (
  e_more (s_ifnonnull (off := 7) (by decide +kernel) (by decide)) (
  e_more (s_iconst (n := 0) (v := 0) (by decide +kernel) (by decide)) (
  e_more (s_goto (off := 7) (by decide +kernel) (by decide)) (
  e_more (s_aload_n (k := 3) (by decide +kernel) rfl) (
  e_more (s_getI (c := 2) (j := 3) (idx := 116) (by decide +kernel) (by decide) (by decide) rfl wd_71) (
  e_more (s_iadd (by decide +kernel)) (
  e_more (s_istore_n (k := 1) (by decide +kernel) rfl (by decide)) (
  e_more (s_iinc (z := 1) (n := 1) (by decide +kernel) (by decide) (by decide)) (
  e_more (s_goto (off := (-32)) (by decide +kernel) (by decide)) (
  e_more (s_iload_n (k := 1) (by decide +kernel) rfl) (
  e_more (s_jret (by decide +kernel) rfl) (
  e_no_more)))))))))))))))))))))))))
def w_X0_debtsTogether : eW := e_sf 1 (e_rn tb_X0_debtsTogether (iL i_X0_debtsTogether) 0 0)
theorem k_X0_debtsTogether : e_OK e_rf i_X0_debtsTogether 0 0 w_X0_debtsTogether := k_sf (k_rn (own := RX0) ⟨by decide +kernel, rfl⟩ st_X0_debtsTogether)
abbrev i_X0_number : eI := (yX0_number, cX0_number, 2, (some .int), 2)
theorem cl_X0_number : e_Cl i_X0_number 1 := ⟨wd_758, wd_16, ⟨by decide, by decide⟩, by decide +kernel, by decide⟩
def tb_X0_number_0 : eTb := [(0, t_ldI 1 1 0), (1, t_sw [(0, 72), (1, 77), (2, 82), (3, 87), (4, 92), (5, 105), (6, 110), (7, 115), (8, 120), (9, 128), (10, 151), (11, 156), (12, 161), (13, 166)] 171), (72, t_ldO 0 1 72), (73, t_getI 0 1 73), (76, t_jret), (77, t_ldO 0 1 77), (78, t_getI 0 3 78), (81, t_jret), (82, t_ldO 0 1 82), (83, t_getI 0 5 83), (86, t_jret), (87, t_ldO 0 1 87), (88, t_getI 0 7 88), (91, t_jret), (92, t_ldO 0 1 92), (93, t_call0 1 w_X0_isSunday 93), (96, t_if (fun a => a = 0) 103 96), (99, t_push (.inl 1) 1 99), (100, t_goto 104), (103, t_push (.inl 0) 1 103), (104, t_jret), (105, t_ldO 0 1 105), (106, t_getI 0 9 106), (109, t_jret), (110, t_ldO 0 1 110), (111, t_getI 0 10 111), (114, t_jret), (115, t_ldO 0 1 115), (116, t_getI 0 11 116), (119, t_jret), (120, t_ldO 0 1 120), (121, t_getI 0 12 121), (124, t_push (.inl 1000000) 2 124), (126, t_ii (fun a b => a + b) 126), (127, t_jret), (128, t_ldO 0 1 128), (129, t_getI 0 13 129), (132, t_ldO 0 1 132), (133, t_getI 0 14 133), (136, t_ii (fun a b => a + b) 136)]
theorem st_X0_number_0 : ∀ x ∈ tb_X0_number_0, e_Sd e_rf RX0 i_X0_number x.1 x.2 :=
  e_more (s_iload_n (k := 1) (by decide +kernel) rfl) (
  e_more (s_table (dflt := 170) (lo := 0) (hi := 13) (offs := #[71, 76, 81, 86, 91, 104, 109, 114, 119, 127, 150, 155, 160, 165]) (len := 71) (l := [(0, 72), (1, 77), (2, 82), (3, 87), (4, 92), (5, 105), (6, 110), (7, 115), (8, 120), (9, 128), (10, 151), (11, 156), (12, 161), (13, 166)]) (by decide +kernel) (by decide +kernel) (by decide +kernel) (by decide)) (
  e_more (s_aload_n (k := 0) (by decide +kernel) rfl) (
  e_more (s_getI (c := 0) (j := 1) (idx := 17) (by decide +kernel) (by decide) (by decide) rfl wd_123) (
  e_more (s_jret (by decide +kernel) rfl) (
  e_more (s_aload_n (k := 0) (by decide +kernel) rfl) (
  e_more (s_getI (c := 0) (j := 3) (idx := 27) (by decide +kernel) (by decide) (by decide) rfl wd_126) (
  e_more (s_jret (by decide +kernel) rfl) (
  e_more (s_aload_n (k := 0) (by decide +kernel) rfl) (
  e_more (s_getI (c := 0) (j := 5) (idx := 34) (by decide +kernel) (by decide) (by decide) rfl wd_128) (
  e_more (s_jret (by decide +kernel) rfl) (
  e_more (s_aload_n (k := 0) (by decide +kernel) rfl) (
  e_more (s_getI (c := 0) (j := 7) (idx := 40) (by decide +kernel) (by decide) (by decide) rfl wd_131) (
  e_more (s_jret (by decide +kernel) rfl) (
  e_more (s_aload_n (k := 0) (by decide +kernel) rfl) (
  e_more (e_call0 (s_callV (c := 0) (idx := 192) k_X0_isSunday (by decide +kernel) cl_X0_isSunday (by decide) rfl wd_759 wd_760 wd_761 (by decide) (e_sf_rec rfl))) (
  e_more (s_if_eq (off := 7) (by decide +kernel) (by decide)) (
  e_more (s_iconst (n := 1) (v := 1) (by decide +kernel) (by decide)) (
  e_more (s_goto (off := 4) (by decide +kernel) (by decide)) (
  e_more (s_iconst (n := 0) (v := 0) (by decide +kernel) (by decide)) (
  e_more (s_jret (by decide +kernel) rfl) (
  e_more (s_aload_n (k := 0) (by decide +kernel) rfl) (
  e_more (s_getI (c := 0) (j := 9) (idx := 47) (by decide +kernel) (by decide) (by decide) rfl wd_134) (
  e_more (s_jret (by decide +kernel) rfl) (
  e_more (s_aload_n (k := 0) (by decide +kernel) rfl) (
  e_more (s_getI (c := 0) (j := 10) (idx := 50) (by decide +kernel) (by decide) (by decide) rfl wd_135) (
  e_more (s_jret (by decide +kernel) rfl) (
  e_more (s_aload_n (k := 0) (by decide +kernel) rfl) (
  e_more (s_getI (c := 0) (j := 11) (idx := 53) (by decide +kernel) (by decide) (by decide) rfl wd_137) (
  e_more (s_jret (by decide +kernel) rfl) (
  e_more (s_aload_n (k := 0) (by decide +kernel) rfl) (
  e_more (s_getI (c := 0) (j := 12) (idx := 56) (by decide +kernel) (by decide) (by decide) rfl wd_139) (
  e_more (s_ldc (i := 199) (v := 1000000) (by decide +kernel) wd_763) (
  e_more (s_iadd (by decide +kernel)) (
  e_more (s_jret (by decide +kernel) rfl) (
  e_more (s_aload_n (k := 0) (by decide +kernel) rfl) (
  e_more (s_getI (c := 0) (j := 13) (idx := 59) (by decide +kernel) (by decide) (by decide) rfl wd_140) (
  e_more (s_aload_n (k := 0) (by decide +kernel) rfl) (
  e_more (s_getI (c := 0) (j := 14) (idx := 62) (by decide +kernel) (by decide) (by decide) rfl wd_141) (
  e_more (s_iadd (by decide +kernel)) (
  e_no_more))))))))))))))))))))))))))))))))))))))))
def tb_X0_number_1 : eTb := [(137, t_ldO 0 1 137), (138, t_getI 0 15 138), (141, t_ii (fun a b => a - b) 141), (142, t_ldO 0 1 142), (143, t_getI 0 16 143), (146, t_ii (fun a b => a - b) 146), (147, t_push (.inl 1000000) 2 147), (149, t_ii (fun a b => a + b) 149), (150, t_jret), (151, t_ldO 0 1 151), (152, t_getI 0 13 152), (155, t_jret), (156, t_ldO 0 1 156), (157, t_getI 0 14 157), (160, t_jret), (161, t_ldO 0 1 161), (162, t_getI 0 15 162), (165, t_jret), (166, t_ldO 0 1 166), (167, t_getI 0 16 167), (170, t_jret), (171, t_ldO 0 1 171), (172, t_call0 1 w_X0_debtsTogether 172), (175, t_jret)]
theorem st_X0_number_1 : ∀ x ∈ tb_X0_number_1, e_Sd e_rf RX0 i_X0_number x.1 x.2 :=
  e_more (s_aload_n (k := 0) (by decide +kernel) rfl) (
  e_more (s_getI (c := 0) (j := 15) (idx := 65) (by decide +kernel) (by decide) (by decide) rfl wd_142) (
  e_more (s_isub (by decide +kernel)) (
  e_more (s_aload_n (k := 0) (by decide +kernel) rfl) (
  e_more (s_getI (c := 0) (j := 16) (idx := 68) (by decide +kernel) (by decide) (by decide) rfl wd_143) (
  e_more (s_isub (by decide +kernel)) (
  e_more (s_ldc (i := 199) (v := 1000000) (by decide +kernel) wd_763) (
  e_more (s_iadd (by decide +kernel)) (
  e_more (s_jret (by decide +kernel) rfl) (
  e_more (s_aload_n (k := 0) (by decide +kernel) rfl) (
  e_more (s_getI (c := 0) (j := 13) (idx := 59) (by decide +kernel) (by decide) (by decide) rfl wd_140) (
  e_more (s_jret (by decide +kernel) rfl) (
  e_more (s_aload_n (k := 0) (by decide +kernel) rfl) (
  e_more (s_getI (c := 0) (j := 14) (idx := 62) (by decide +kernel) (by decide) (by decide) rfl wd_141) (
  e_more (s_jret (by decide +kernel) rfl) (
  e_more (s_aload_n (k := 0) (by decide +kernel) rfl) (
  e_more (s_getI (c := 0) (j := 15) (idx := 65) (by decide +kernel) (by decide) (by decide) rfl wd_142) (
  e_more (s_jret (by decide +kernel) rfl) (
  e_more (s_aload_n (k := 0) (by decide +kernel) rfl) (
  e_more (s_getI (c := 0) (j := 16) (idx := 68) (by decide +kernel) (by decide) (by decide) rfl wd_143) (
  e_more (s_jret (by decide +kernel) rfl) (
  e_more (s_aload_n (k := 0) (by decide +kernel) rfl) (
  e_more (e_call0 (s_callV (c := 0) (idx := 200) k_X0_debtsTogether (by decide +kernel) cl_X0_debtsTogether (by decide) rfl wd_764 wd_765 wd_766 (by decide) (e_sf_rec rfl))) (
  e_more (s_jret (by decide +kernel) rfl) (
  e_no_more))))))))))))))))))))))))
def tb_X0_number : eTb := tb_X0_number_0 ++ tb_X0_number_1
theorem st_X0_number : ∀ x ∈ tb_X0_number, e_Sd e_rf RX0 i_X0_number x.1 x.2 := e_app (st_X0_number_0) st_X0_number_1
def w_X0_number : eW := e_sf 1 (e_rn tb_X0_number (iL i_X0_number) 0 0)
theorem k_X0_number : e_OK e_rf i_X0_number 0 0 w_X0_number := k_sf (k_rn (own := RX0) ⟨by decide +kernel, rfl⟩ st_X0_number)
