/-! what makes things: tables and readings, by program. Own work. -/
abbrev i_J5_init_d00df : eI := (yJ5_init_d00df, cJ5_init_d00df, 2, none, 1)
theorem cl_J5_init_d00df : e_Cl i_J5_init_d00df 1 := ⟨wd_193, wd_20, ⟨by decide, by decide⟩, by decide +kernel, by decide⟩
def tb_J5_init_d00df : eTb := [(0, t_ldO 0 1 0), (1, fun _ _ K lc st S bc bs => e_pQ st fun _ _ r => cond (Nat.ble (e_sz r) 8) (K (1 + 3) lc r S bc bs) False), (4, t_push (.inl 1) 3 4), (7, t_if (fun a => a = 0) 25 7), (10, t_ldO 0 1 10), (11, t_ldI 1 1 11), (12, t_newA 1 12), (14, t_putR e_r0 6 0 14), (17, t_ldO 0 1 17), (18, t_push (.inl 0) 1 18), (19, t_putN .byte 6 1 19), (22, t_goto 38), (25, t_ldO 0 1 25), (26, t_ldI 1 1 26), (30, t_putR e_r0 6 0 30), (33, t_ldO 0 1 33), (34, t_push (.inl 1) 1 34), (35, t_putN .byte 6 1 35), (38, t_ret)]
theorem st_J5_init_d00df : ∀ x ∈ tb_J5_init_d00df, e_Sd e_r0 RJ5 i_J5_init_d00df x.1 x.2 :=
  e_more (s_aload_n (k := 0) (by decide +kernel) rfl) (
  e_more (s_obj (idx := 3) (by decide +kernel) wd_194 wd_45 wd_46 (by decide)) (
  e_more (s_getCS (idx := 18) (by decide +kernel) wd_195) (
  e_more (s_if_eq (off := 18) (by decide +kernel) (by decide)) (
  e_more (s_aload_n (k := 0) (by decide +kernel) rfl) (
  e_more (s_iload_n (k := 1) (by decide +kernel) rfl) (
  e_more (s_newA (t := 1) (at0 := .byte) (by decide +kernel) (by decide) rfl wd_218 (fun _ _ _ _ => rfl)) (
  e_more (s_putR (c := 6) (j := 0) (idx := 15) (by decide +kernel) (by decide) (by decide) (by first | exact Or.inl ⟨_, rfl⟩ | exact Or.inr ⟨_, rfl⟩) (by first | exact Or.inl rfl | exact Or.inr ⟨rfl, rfl, rfl⟩) wd_204) (
  e_more (s_aload_n (k := 0) (by decide +kernel) rfl) (
  e_more (s_iconst (n := 0) (v := 0) (by decide +kernel) (by decide)) (
  e_more (s_putN (c := 6) (j := 1) (idx := 22) (by decide +kernel) (by decide) (by decide) rfl rfl rfl wd_205) (
  e_more (s_goto (off := 16) (by decide +kernel) (by decide)) (
  e_more (s_aload_n (k := 0) (by decide +kernel) rfl) (
  e_more (s_iload_n (k := 1) (by decide +kernel) rfl) (
  e_more (s_putR (c := 6) (j := 0) (idx := 15) (by decide +kernel) (by decide) (by decide) (by first | exact Or.inl ⟨_, rfl⟩ | exact Or.inr ⟨_, rfl⟩) (by first | exact Or.inl rfl | exact Or.inr ⟨rfl, rfl, rfl⟩) wd_204) (
  e_more (s_aload_n (k := 0) (by decide +kernel) rfl) (
  e_more (s_iconst (n := 1) (v := 1) (by decide +kernel) (by decide)) (
  e_more (s_putN (c := 6) (j := 1) (idx := 22) (by decide +kernel) (by decide) (by decide) rfl rfl rfl wd_205) (
  e_more (s_ret (by decide +kernel) rfl) (
  e_no_more)))))))))))))))))))
def w_J5_init_d00df : eW := e_sf 10 (e_rn tb_J5_init_d00df (iL i_J5_init_d00df) 1 16)
theorem k_J5_init_d00df : e_OK e_r0 i_J5_init_d00df 1 16 w_J5_init_d00df := k_sf (k_rn (own := RJ5) ⟨by decide +kernel, rfl⟩ st_J5_init_d00df)
abbrev i_J4_init_da8c8 : eI := (yJ4_init_da8c8, cJ4_init_da8c8, 1, none, 2)
theorem cl_J4_init_da8c8 : e_Cl i_J4_init_da8c8 0 := ⟨wd_190, wd_21, ⟨by decide, by decide⟩, by decide +kernel, by decide⟩
def tb_J4_init_da8c8 : eTb := [(0, t_ldO 0 1 0), (1, t_push (.inl 16) 2 1), (3, t_call 2 1 16 w_J5_init_d00df 3), (6, t_ret)]
theorem st_J4_init_da8c8 : ∀ x ∈ tb_J4_init_da8c8, e_Sd e_r0 RJ4 i_J4_init_da8c8 x.1 x.2 :=
  e_more (s_aload_n (k := 0) (by decide +kernel) rfl) (
  e_more (s_bipush (n := 16) (v := 16) (by decide +kernel) (by decide)) (
  e_more (s_callI (idx := 1) k_J5_init_d00df (by decide +kernel) cl_J5_init_d00df wd_191 wd_192 ⟨rfl, rfl⟩ (e_sf_rec0 rfl) (by decide)) (
  e_more (s_ret (by decide +kernel) rfl) (
  e_no_more))))
def w_J4_init_da8c8 : eW := e_sf 10 (e_rn tb_J4_init_da8c8 (iL i_J4_init_da8c8) 1 16)
theorem k_J4_init_da8c8 : e_OK e_r0 i_J4_init_da8c8 1 16 w_J4_init_da8c8 := k_sf (k_rn (own := RJ4) ⟨by decide +kernel, rfl⟩ st_J4_init_da8c8)
abbrev i_X2_init : eI := (yX2_init, cX2_init, 1, none, 1)
theorem cl_X2_init : e_Cl i_X2_init 0 := ⟨wd_60, wd_17, ⟨by decide, by decide⟩, by decide +kernel, by decide⟩
def tb_X2_init : eTb := [(0, t_ldO 0 1 0), (1, fun _ _ K lc st S bc bs => e_pQ st fun _ _ r => cond (Nat.ble (e_sz r) 8) (K (1 + 3) lc r S bc bs) False), (4, t_ret)]
theorem st_X2_init : ∀ x ∈ tb_X2_init, e_Sd e_r0 RX2 i_X2_init x.1 x.2 :=
  e_more (s_aload_n (k := 0) (by decide +kernel) rfl) (
  e_more (s_obj (idx := 3) (by decide +kernel) wd_61 wd_45 wd_46 (by decide)) (
  e_more (s_ret (by decide +kernel) rfl) (
  e_no_more)))
def w_X2_init : eW := e_sf 2 (e_rn tb_X2_init (iL i_X2_init) 0 0)
theorem k_X2_init : e_OK e_r0 i_X2_init 0 0 w_X2_init := k_sf (k_rn (own := RX2) ⟨by decide +kernel, rfl⟩ st_X2_init)
abbrev i_X1_init : eI := (yX1_init, cX1_init, 1, none, 1)
theorem cl_X1_init : e_Cl i_X1_init 0 := ⟨wd_98, wd_18, ⟨by decide, by decide⟩, by decide +kernel, by decide⟩
def tb_X1_init : eTb := [(0, t_ldO 0 1 0), (1, fun _ _ K lc st S bc bs => e_pQ st fun _ _ r => cond (Nat.ble (e_sz r) 8) (K (1 + 3) lc r S bc bs) False), (4, t_ret)]
theorem st_X1_init : ∀ x ∈ tb_X1_init, e_Sd e_r0 RX1 i_X1_init x.1 x.2 :=
  e_more (s_aload_n (k := 0) (by decide +kernel) rfl) (
  e_more (s_obj (idx := 3) (by decide +kernel) wd_99 wd_45 wd_46 (by decide)) (
  e_more (s_ret (by decide +kernel) rfl) (
  e_no_more)))
def w_X1_init : eW := e_sf 3 (e_rn tb_X1_init (iL i_X1_init) 0 0)
theorem k_X1_init : e_OK e_r0 i_X1_init 0 0 w_X1_init := k_sf (k_rn (own := RX1) ⟨by decide +kernel, rfl⟩ st_X1_init)
abbrev i_X0_init : eI := (yX0_init, cX0_init, 2, none, 2)
theorem cl_X0_init : e_Cl i_X0_init 0 := ⟨wd_51, wd_16, ⟨by decide, by decide⟩, by decide +kernel, by decide⟩
def tb_X0_init_0 : eTb := [(0, t_ldO 0 1 0), (1, fun _ _ K lc st S bc bs => e_pQ st fun _ _ r => cond (Nat.ble (e_sz r) 8) (K (1 + 3) lc r S bc bs) False), (4, t_ldO 0 1 4), (5, t_push (.inl 10) 2 5), (7, t_newQ 3 7), (10, t_putR e_r0 0 0 10), (13, t_ldO 0 1 13), (14, t_push (.inl 0) 1 14), (15, t_putI 0 1 15), (18, t_ldO 0 1 18), (19, t_push (.inl 10) 2 19), (21, t_newQ 4 21), (24, t_putR e_r0 0 2 24), (27, t_ldO 0 1 27), (28, t_push (.inl 0) 1 28), (29, t_putI 0 3 29), (32, t_ldO 0 1 32), (33, t_push (.inl 10) 2 33), (35, t_newA 0 35), (37, t_putR e_r0 0 4 37), (40, t_ldO 0 1 40), (41, t_push (.inl 0) 1 41), (42, t_putI 0 5 42), (45, t_ldO 0 1 45), (46, t_push (.inl 3) 1 46), (47, t_newA 0 47), (49, t_dup 49), (50, t_push (.inl 0) 1 50), (51, t_push (.inl 20) 2 51), (53, t_iast 53), (54, t_dup 54), (55, t_push (.inl 1) 1 55), (56, t_push (.inl 60) 2 56), (58, t_iast 58), (59, t_dup 59), (60, t_push (.inl 2) 1 60), (61, t_push (.inl 30) 2 61), (63, t_iast 63), (64, t_putR e_r0 0 6 64), (67, t_ldO 0 1 67)]
theorem st_X0_init_0 : ∀ x ∈ tb_X0_init_0, e_Sd e_r0 RX0 i_X0_init x.1 x.2 :=
  e_more (s_aload_n (k := 0) (by decide +kernel) rfl) (
  e_more (s_obj (idx := 3) (by decide +kernel) wd_52 wd_45 wd_46 (by decide)) (
  e_more (s_aload_n (k := 0) (by decide +kernel) rfl) (
  e_more (s_bipush (n := 10) (v := 10) (by decide +kernel) (by decide)) (
  e_more (s_newQ (t := 3) (idx := 11) (by decide +kernel) ⟨by decide, by decide⟩ rfl wd_53 (by first | exact Or.inl rfl | exact Or.inr (Or.inl rfl) | exact Or.inr (Or.inr rfl)) (fun _ _ _ => rfl)) (
  e_more (s_putR (c := 0) (j := 0) (idx := 13) (by decide +kernel) (by decide) (by decide) (by first | exact Or.inl ⟨_, rfl⟩ | exact Or.inr ⟨_, rfl⟩) (by first | exact Or.inl rfl | exact Or.inr ⟨rfl, rfl, rfl⟩) wd_122) (
  e_more (s_aload_n (k := 0) (by decide +kernel) rfl) (
  e_more (s_iconst (n := 0) (v := 0) (by decide +kernel) (by decide)) (
  e_more (s_putI (c := 0) (j := 1) (idx := 17) (by decide +kernel) (by decide) (by decide) rfl rfl wd_123) (
  e_more (s_aload_n (k := 0) (by decide +kernel) rfl) (
  e_more (s_bipush (n := 10) (v := 10) (by decide +kernel) (by decide)) (
  e_more (s_newQ (t := 4) (idx := 21) (by decide +kernel) ⟨by decide, by decide⟩ rfl wd_55 (by first | exact Or.inl rfl | exact Or.inr (Or.inl rfl) | exact Or.inr (Or.inr rfl)) (fun _ _ _ => rfl)) (
  e_more (s_putR (c := 0) (j := 2) (idx := 23) (by decide +kernel) (by decide) (by decide) (by first | exact Or.inl ⟨_, rfl⟩ | exact Or.inr ⟨_, rfl⟩) (by first | exact Or.inl rfl | exact Or.inr ⟨rfl, rfl, rfl⟩) wd_125) (
  e_more (s_aload_n (k := 0) (by decide +kernel) rfl) (
  e_more (s_iconst (n := 0) (v := 0) (by decide +kernel) (by decide)) (
  e_more (s_putI (c := 0) (j := 3) (idx := 27) (by decide +kernel) (by decide) (by decide) rfl rfl wd_126) (
  e_more (s_aload_n (k := 0) (by decide +kernel) rfl) (
  e_more (s_bipush (n := 10) (v := 10) (by decide +kernel) (by decide)) (
  e_more (s_newA (t := 0) (at0 := .int) (by decide +kernel) (by decide) rfl wd_94 (fun _ _ _ _ => rfl)) (
  e_more (s_putR (c := 0) (j := 4) (idx := 30) (by decide +kernel) (by decide) (by decide) (by first | exact Or.inl ⟨_, rfl⟩ | exact Or.inr ⟨_, rfl⟩) (by first | exact Or.inl rfl | exact Or.inr ⟨rfl, rfl, rfl⟩) wd_127) (
  e_more (s_aload_n (k := 0) (by decide +kernel) rfl) (
  e_more (s_iconst (n := 0) (v := 0) (by decide +kernel) (by decide)) (
  e_more (s_putI (c := 0) (j := 5) (idx := 34) (by decide +kernel) (by decide) (by decide) rfl rfl wd_128) (
  e_more (s_aload_n (k := 0) (by decide +kernel) rfl) (
  e_more (s_iconst (n := 3) (v := 3) (by decide +kernel) (by decide)) (
  e_more (s_newA (t := 0) (at0 := .int) (by decide +kernel) (by decide) rfl wd_94 (fun _ _ _ _ => rfl)) (
  e_more (s_dup (by decide +kernel)) (
  e_more (s_iconst (n := 0) (v := 0) (by decide +kernel) (by decide)) (
  e_more (s_bipush (n := 20) (v := 20) (by decide +kernel) (by decide)) (
  e_more (s_iast (by decide +kernel)) (
  e_more (s_dup (by decide +kernel)) (
  e_more (s_iconst (n := 1) (v := 1) (by decide +kernel) (by decide)) (
  e_more (s_bipush (n := 60) (v := 60) (by decide +kernel) (by decide)) (
  e_more (s_iast (by decide +kernel)) (
  e_more (s_dup (by decide +kernel)) (
  e_more (s_iconst (n := 2) (v := 2) (by decide +kernel) (by decide)) (
  e_more (s_bipush (n := 30) (v := 30) (by decide +kernel) (by decide)) (
  e_more (s_iast (by decide +kernel)) (
  e_more (s_putR (c := 0) (j := 6) (idx := 37) (by decide +kernel) (by decide) (by decide) (by first | exact Or.inl ⟨_, rfl⟩ | exact Or.inr ⟨_, rfl⟩) (by first | exact Or.inl rfl | exact Or.inr ⟨rfl, rfl, rfl⟩) wd_130) (
  e_more (s_aload_n (k := 0) (by decide +kernel) rfl) (
  e_no_more))))))))))))))))))))))))))))))))))))))))
def tb_X0_init_1 : eTb := [(68, t_push (.inl 0) 1 68), (69, t_putI 0 7 69), (72, t_ldO 0 1 72), (73, t_push (.inl 0) 1 73), (74, t_putN .boolean 0 8 74), (77, t_ldO 0 1 77), (78, t_push (.inl 0) 1 78), (79, t_putI 0 9 79), (82, t_ldO 0 1 82), (83, t_push (.inl 0) 1 83), (84, t_putI 0 10 84), (87, t_ldO 0 1 87), (88, t_push (.inl 0) 1 88), (89, t_putI 0 11 89), (92, t_ldO 0 1 92), (93, t_push (.inl 0) 1 93), (94, t_putI 0 12 94), (97, t_ldO 0 1 97), (98, t_push (.inl 0) 1 98), (99, t_putI 0 13 99), (102, t_ldO 0 1 102), (103, t_push (.inl 0) 1 103), (104, t_putI 0 14 104), (107, t_ldO 0 1 107), (108, t_push (.inl 0) 1 108), (109, t_putI 0 15 109), (112, t_ldO 0 1 112), (113, t_push (.inl 0) 1 113), (114, t_putI 0 16 114), (117, t_push (.inl 0) 1 117), (118, t_stI 1 1 118), (119, t_ldI 1 1 119), (120, t_push (.inl 10) 2 120), (122, t_ic (fun a b => b ≤ a) 144 122), (125, t_ldO 0 1 125), (126, t_getR e_r0 0 0 126), (129, t_ldI 1 1 129), (130, t_new 2 130), (133, t_dup 133), (134, t_call0 1 w_X2_init 134)]
theorem st_X0_init_1 : ∀ x ∈ tb_X0_init_1, e_Sd e_r0 RX0 i_X0_init x.1 x.2 :=
  e_more (s_iconst (n := 0) (v := 0) (by decide +kernel) (by decide)) (
  e_more (s_putI (c := 0) (j := 7) (idx := 40) (by decide +kernel) (by decide) (by decide) rfl rfl wd_131) (
  e_more (s_aload_n (k := 0) (by decide +kernel) rfl) (
  e_more (s_iconst (n := 0) (v := 0) (by decide +kernel) (by decide)) (
  e_more (s_putN (c := 0) (j := 8) (idx := 43) (by decide +kernel) (by decide) (by decide) rfl rfl rfl wd_133) (
  e_more (s_aload_n (k := 0) (by decide +kernel) rfl) (
  e_more (s_iconst (n := 0) (v := 0) (by decide +kernel) (by decide)) (
  e_more (s_putI (c := 0) (j := 9) (idx := 47) (by decide +kernel) (by decide) (by decide) rfl rfl wd_134) (
  e_more (s_aload_n (k := 0) (by decide +kernel) rfl) (
  e_more (s_iconst (n := 0) (v := 0) (by decide +kernel) (by decide)) (
  e_more (s_putI (c := 0) (j := 10) (idx := 50) (by decide +kernel) (by decide) (by decide) rfl rfl wd_135) (
  e_more (s_aload_n (k := 0) (by decide +kernel) rfl) (
  e_more (s_iconst (n := 0) (v := 0) (by decide +kernel) (by decide)) (
  e_more (s_putI (c := 0) (j := 11) (idx := 53) (by decide +kernel) (by decide) (by decide) rfl rfl wd_137) (
  e_more (s_aload_n (k := 0) (by decide +kernel) rfl) (
  e_more (s_iconst (n := 0) (v := 0) (by decide +kernel) (by decide)) (
  e_more (s_putI (c := 0) (j := 12) (idx := 56) (by decide +kernel) (by decide) (by decide) rfl rfl wd_139) (
  e_more (s_aload_n (k := 0) (by decide +kernel) rfl) (
  e_more (s_iconst (n := 0) (v := 0) (by decide +kernel) (by decide)) (
  e_more (s_putI (c := 0) (j := 13) (idx := 59) (by decide +kernel) (by decide) (by decide) rfl rfl wd_140) (
  e_more (s_aload_n (k := 0) (by decide +kernel) rfl) (
  e_more (s_iconst (n := 0) (v := 0) (by decide +kernel) (by decide)) (
  e_more (s_putI (c := 0) (j := 14) (idx := 62) (by decide +kernel) (by decide) (by decide) rfl rfl wd_141) (
  e_more (s_aload_n (k := 0) (by decide +kernel) rfl) (
  e_more (s_iconst (n := 0) (v := 0) (by decide +kernel) (by decide)) (
  e_more (s_putI (c := 0) (j := 15) (idx := 65) (by decide +kernel) (by decide) (by decide) rfl rfl wd_142) (
  e_more (s_aload_n (k := 0) (by decide +kernel) rfl) (
  e_more (s_iconst (n := 0) (v := 0) (by decide +kernel) (by decide)) (
  e_more (s_putI (c := 0) (j := 16) (idx := 68) (by decide +kernel) (by decide) (by decide) rfl rfl wd_143) (
  e_more (s_iconst (n := 0) (v := 0) (by decide +kernel) (by decide)) (
  e_more (s_istore_n (k := 1) (by decide +kernel) rfl (by decide)) (
  e_more (s_iload_n (k := 1) (by decide +kernel) rfl) (
  e_more (s_bipush (n := 10) (v := 10) (by decide +kernel) (by decide)) (
  e_more (s_ic_ge (off := 22) (by decide +kernel) (by decide)) (
  e_more (s_aload_n (k := 0) (by decide +kernel) rfl) (
  e_more (s_getR (c := 0) (j := 0) (idx := 13) (by decide +kernel) (by decide) (by decide) rfl wd_122) (
  e_more (s_iload_n (k := 1) (by decide +kernel) rfl) (
  e_more (s_new (c := 2) (idx := 11) (by decide +kernel) (by decide) wd_53 wd_57 wd_17 (fun _ _ _ => rfl)) (
  e_more (s_dup (by decide +kernel)) (
  e_more (e_call0 (s_callIN (idx := 71) k_X2_init (by decide +kernel) cl_X2_init (by decide +kernel) wd_59 ⟨rfl, rfl⟩ (e_sf_rec0 rfl) (by decide))) (
  e_no_more))))))))))))))))))))))))))))))))))))))))
def tb_X0_init_2 : eTb := [(137, t_aast e_r0 3 137), (138, t_iinc 1 1 138), (141, t_goto 119), (144, t_push (.inl 0) 1 144), (145, t_stI 1 1 145), (146, t_ldI 1 1 146), (147, t_push (.inl 10) 2 147), (149, t_ic (fun a b => b ≤ a) 171 149), (152, t_ldO 0 1 152), (153, t_getR e_r0 0 2 153), (156, t_ldI 1 1 156), (157, t_new 1 157), (160, t_dup 160), (161, t_call0 1 w_X1_init 161), (164, t_aast e_r0 4 164), (165, t_iinc 1 1 165), (168, t_goto 146), (171, t_ret)]
theorem st_X0_init_2 : ∀ x ∈ tb_X0_init_2, e_Sd e_r0 RX0 i_X0_init x.1 x.2 :=
  e_more (s_aast (by decide +kernel) (by decide)) (
  e_more (s_iinc (z := 1) (n := 1) (by decide +kernel) (by decide) (by decide)) (
  e_more (s_goto (off := (-22)) (by decide +kernel) (by decide)) (
  e_more (s_iconst (n := 0) (v := 0) (by decide +kernel) (by decide)) (
  e_more (s_istore_n (k := 1) (by decide +kernel) rfl (by decide)) (
  e_more (s_iload_n (k := 1) (by decide +kernel) rfl) (
  e_more (s_bipush (n := 10) (v := 10) (by decide +kernel) (by decide)) (
  e_more (s_ic_ge (off := 22) (by decide +kernel) (by decide)) (
  e_more (s_aload_n (k := 0) (by decide +kernel) rfl) (
  e_more (s_getR (c := 0) (j := 2) (idx := 23) (by decide +kernel) (by decide) (by decide) rfl wd_125) (
  e_more (s_iload_n (k := 1) (by decide +kernel) rfl) (
  e_more (s_new (c := 1) (idx := 21) (by decide +kernel) (by decide) wd_55 wd_95 wd_18 (fun _ _ _ => rfl)) (
  e_more (s_dup (by decide +kernel)) (
  e_more (e_call0 (s_callIN (idx := 72) k_X1_init (by decide +kernel) cl_X1_init (by decide +kernel) wd_97 ⟨rfl, rfl⟩ (e_sf_rec0 rfl) (by decide))) (
  e_more (s_aast (by decide +kernel) (by decide)) (
  e_more (s_iinc (z := 1) (n := 1) (by decide +kernel) (by decide) (by decide)) (
  e_more (s_goto (off := (-22)) (by decide +kernel) (by decide)) (
  e_more (s_ret (by decide +kernel) rfl) (
  e_no_more))))))))))))))))))
def tb_X0_init : eTb := tb_X0_init_0 ++ tb_X0_init_1 ++ tb_X0_init_2
theorem st_X0_init : ∀ x ∈ tb_X0_init, e_Sd e_r0 RX0 i_X0_init x.1 x.2 := e_app (e_app (st_X0_init_0) st_X0_init_1) st_X0_init_2
def w_X0_init : eW := e_sf 1 (e_rn tb_X0_init (iL i_X0_init) 24 153)
theorem k_X0_init : e_OK e_r0 i_X0_init 24 153 w_X0_init := k_sf (k_rn (own := RX0) ⟨by decide +kernel, rfl⟩ st_X0_init)
abbrev i_X3_init : eI := (yX3_init, cX3_init, 1, none, 3)
theorem cl_X3_init : e_Cl i_X3_init 0 := ⟨wd_184, wd_19, ⟨by decide, by decide⟩, by decide +kernel, by decide⟩
def tb_X3_init : eTb := [(0, t_ldO 0 1 0), (1, fun _ _ K lc st S bc bs => e_pQ st fun _ _ r => cond (Nat.ble (e_sz r) 8) (K (1 + 3) lc r S bc bs) False), (4, t_ldO 0 1 4), (5, t_new 6 5), (8, t_dup 8), (9, t_call 1 1 16 w_J4_init_da8c8 9), (12, t_putR e_r0 3 0 12), (15, t_ret)]
theorem st_X3_init : ∀ x ∈ tb_X3_init, e_Sd e_r0 RX3 i_X3_init x.1 x.2 :=
  e_more (s_aload_n (k := 0) (by decide +kernel) rfl) (
  e_more (s_obj (idx := 3) (by decide +kernel) wd_185 wd_45 wd_46 (by decide)) (
  e_more (s_aload_n (k := 0) (by decide +kernel) rfl) (
  e_more (s_new (c := 6) (idx := 9) (by decide +kernel) (by decide) wd_186 wd_187 wd_21 (fun _ _ _ => rfl)) (
  e_more (s_dup (by decide +kernel)) (
  e_more (s_callI (idx := 11) k_J4_init_da8c8 (by decide +kernel) cl_J4_init_da8c8 wd_188 wd_189 ⟨rfl, rfl⟩ (e_sf_rec0 rfl) (by decide)) (
  e_more (s_putR (c := 3) (j := 0) (idx := 12) (by decide +kernel) (by decide) (by decide) (by first | exact Or.inl ⟨_, rfl⟩ | exact Or.inr ⟨_, rfl⟩) (by first | exact Or.inl rfl | exact Or.inr ⟨rfl, rfl, rfl⟩) wd_219) (
  e_more (s_ret (by decide +kernel) rfl) (
  e_no_more))))))))
def w_X3_init : eW := e_sf 12 (e_rn tb_X3_init (iL i_X3_init) 2 20)
theorem k_X3_init : e_OK e_r0 i_X3_init 2 20 w_X3_init := k_sf (k_rn (own := RX3) ⟨by decide +kernel, rfl⟩ st_X3_init)
abbrev i_X4_init : eI := (yX4_init, cX4_init, 2, none, 4)
theorem cl_X4_init : e_Cl i_X4_init 0 := ⟨wd_43, wd_15, ⟨by decide, by decide⟩, by decide +kernel, by decide⟩
def tb_X4_init_0 : eTb := [(0, t_ldO 0 1 0), (1, fun _ _ K lc st S bc bs => e_pQ st fun _ _ r => cond (Nat.ble (e_sz r) 8) (K (1 + 3) lc r S bc bs) False), (4, t_ldO 0 1 4), (5, t_new 0 5), (8, t_dup 8), (9, t_call 1 24 153 w_X0_init 9), (12, t_putR e_r0 4 0 12), (15, t_ldO 0 1 15), (16, t_new 0 16), (19, t_dup 19), (20, t_call 1 24 153 w_X0_init 20), (23, t_putR e_r0 4 1 23), (26, t_ldO 0 1 26), (27, t_push (.inl 0) 1 27), (28, t_putN .boolean 4 2 28), (31, t_ldO 0 1 31), (32, t_push (.inl 6) 2 32), (34, t_newQ 5 34), (37, t_putR e_r0 4 3 37), (40, t_ldO 0 1 40), (41, t_push (.inl 0) 1 41), (42, t_putI 4 4 42), (45, t_ldO 0 1 45), (46, t_new 3 46), (49, t_dup 49), (50, t_call 1 2 20 w_X3_init 50), (53, t_putR e_r0 4 5 53), (56, t_ldO 0 1 56), (57, t_push (.inl 4) 1 57), (58, t_newA 0 58), (60, t_putR e_r0 4 6 60), (63, t_ldO 0 1 63), (64, t_new 6 64), (67, t_dup 67), (68, t_call 1 1 16 w_J4_init_da8c8 68), (71, t_putR e_r0 4 7 71), (74, t_push (.inl 0) 1 74), (75, t_stI 1 1 75), (76, t_ldI 1 1 76), (77, t_push (.inl 6) 2 77)]
theorem st_X4_init_0 : ∀ x ∈ tb_X4_init_0, e_Sd e_r0 RX4 i_X4_init x.1 x.2 :=
  e_more (s_aload_n (k := 0) (by decide +kernel) rfl) (
  e_more (s_obj (idx := 1) (by decide +kernel) wd_44 wd_45 wd_46 (by decide)) (
  e_more (s_aload_n (k := 0) (by decide +kernel) rfl) (
  e_more (s_new (c := 0) (idx := 7) (by decide +kernel) (by decide) wd_47 wd_48 wd_16 (fun _ _ _ => rfl)) (
  e_more (s_dup (by decide +kernel)) (
  e_more (s_callI (idx := 9) k_X0_init (by decide +kernel) cl_X0_init wd_49 wd_50 ⟨rfl, rfl⟩ (e_sf_rec0 rfl) (by decide)) (
  e_more (s_putR (c := 4) (j := 0) (idx := 10) (by decide +kernel) (by decide) (by decide) (by first | exact Or.inl ⟨_, rfl⟩ | exact Or.inr ⟨_, rfl⟩) (by first | exact Or.inl rfl | exact Or.inr ⟨rfl, rfl, rfl⟩) wd_225) (
  e_more (s_aload_n (k := 0) (by decide +kernel) rfl) (
  e_more (s_new (c := 0) (idx := 7) (by decide +kernel) (by decide) wd_47 wd_48 wd_16 (fun _ _ _ => rfl)) (
  e_more (s_dup (by decide +kernel)) (
  e_more (s_callI (idx := 9) k_X0_init (by decide +kernel) cl_X0_init wd_49 wd_50 ⟨rfl, rfl⟩ (e_sf_rec0 rfl) (by decide)) (
  e_more (s_putR (c := 4) (j := 1) (idx := 16) (by decide +kernel) (by decide) (by decide) (by first | exact Or.inl ⟨_, rfl⟩ | exact Or.inr ⟨_, rfl⟩) (by first | exact Or.inl rfl | exact Or.inr ⟨rfl, rfl, rfl⟩) wd_226) (
  e_more (s_aload_n (k := 0) (by decide +kernel) rfl) (
  e_more (s_iconst (n := 0) (v := 0) (by decide +kernel) (by decide)) (
  e_more (s_putN (c := 4) (j := 2) (idx := 19) (by decide +kernel) (by decide) (by decide) rfl rfl rfl wd_227) (
  e_more (s_aload_n (k := 0) (by decide +kernel) rfl) (
  e_more (s_bipush (n := 6) (v := 6) (by decide +kernel) (by decide)) (
  e_more (s_newQ (t := 5) (idx := 7) (by decide +kernel) ⟨by decide, by decide⟩ rfl wd_47 (by first | exact Or.inl rfl | exact Or.inr (Or.inl rfl) | exact Or.inr (Or.inr rfl)) (fun _ _ _ => rfl)) (
  e_more (s_putR (c := 4) (j := 3) (idx := 23) (by decide +kernel) (by decide) (by decide) (by first | exact Or.inl ⟨_, rfl⟩ | exact Or.inr ⟨_, rfl⟩) (by first | exact Or.inl rfl | exact Or.inr ⟨rfl, rfl, rfl⟩) wd_228) (
  e_more (s_aload_n (k := 0) (by decide +kernel) rfl) (
  e_more (s_iconst (n := 0) (v := 0) (by decide +kernel) (by decide)) (
  e_more (s_putI (c := 4) (j := 4) (idx := 27) (by decide +kernel) (by decide) (by decide) rfl rfl wd_229) (
  e_more (s_aload_n (k := 0) (by decide +kernel) rfl) (
  e_more (s_new (c := 3) (idx := 31) (by decide +kernel) (by decide) wd_180 wd_181 wd_19 (fun _ _ _ => rfl)) (
  e_more (s_dup (by decide +kernel)) (
  e_more (s_callIN (idx := 33) k_X3_init (by decide +kernel) cl_X3_init (by decide +kernel) wd_183 ⟨rfl, rfl⟩ (e_sf_rec0 rfl) (by decide)) (
  e_more (s_putR (c := 4) (j := 5) (idx := 34) (by decide +kernel) (by decide) (by decide) (by first | exact Or.inl ⟨_, rfl⟩ | exact Or.inr ⟨_, rfl⟩) (by first | exact Or.inl rfl | exact Or.inr ⟨rfl, rfl, rfl⟩) wd_230) (
  e_more (s_aload_n (k := 0) (by decide +kernel) rfl) (
  e_more (s_iconst (n := 4) (v := 4) (by decide +kernel) (by decide)) (
  e_more (s_newA (t := 0) (at0 := .int) (by decide +kernel) (by decide) rfl wd_94 (fun _ _ _ _ => rfl)) (
  e_more (s_putR (c := 4) (j := 6) (idx := 38) (by decide +kernel) (by decide) (by decide) (by first | exact Or.inl ⟨_, rfl⟩ | exact Or.inr ⟨_, rfl⟩) (by first | exact Or.inl rfl | exact Or.inr ⟨rfl, rfl, rfl⟩) wd_231) (
  e_more (s_aload_n (k := 0) (by decide +kernel) rfl) (
  e_more (s_new (c := 6) (idx := 42) (by decide +kernel) (by decide) wd_223 wd_187 wd_21 (fun _ _ _ => rfl)) (
  e_more (s_dup (by decide +kernel)) (
  e_more (s_callI (idx := 44) k_J4_init_da8c8 (by decide +kernel) cl_J4_init_da8c8 wd_224 wd_189 ⟨rfl, rfl⟩ (e_sf_rec0 rfl) (by decide)) (
  e_more (s_putR (c := 4) (j := 7) (idx := 45) (by decide +kernel) (by decide) (by decide) (by first | exact Or.inl ⟨_, rfl⟩ | exact Or.inr ⟨_, rfl⟩) (by first | exact Or.inl rfl | exact Or.inr ⟨rfl, rfl, rfl⟩) wd_232) (
  e_more (s_iconst (n := 0) (v := 0) (by decide +kernel) (by decide)) (
  e_more (s_istore_n (k := 1) (by decide +kernel) rfl (by decide)) (
  e_more (s_iload_n (k := 1) (by decide +kernel) rfl) (
  e_more (s_bipush (n := 6) (v := 6) (by decide +kernel) (by decide)) (
  e_no_more))))))))))))))))))))))))))))))))))))))))
def tb_X4_init_1 : eTb := [(79, t_ic (fun a b => b ≤ a) 101 79), (82, t_ldO 0 1 82), (83, t_getR e_r0 4 3 83), (86, t_ldI 1 1 86), (87, t_new 0 87), (90, t_dup 90), (91, t_call 1 24 153 w_X0_init 91), (94, t_aast e_r0 5 94), (95, t_iinc 1 1 95), (98, t_goto 76), (101, t_ret)]
theorem st_X4_init_1 : ∀ x ∈ tb_X4_init_1, e_Sd e_r0 RX4 i_X4_init x.1 x.2 :=
  e_more (s_ic_ge (off := 22) (by decide +kernel) (by decide)) (
  e_more (s_aload_n (k := 0) (by decide +kernel) rfl) (
  e_more (s_getR (c := 4) (j := 3) (idx := 23) (by decide +kernel) (by decide) (by decide) rfl wd_228) (
  e_more (s_iload_n (k := 1) (by decide +kernel) rfl) (
  e_more (s_new (c := 0) (idx := 7) (by decide +kernel) (by decide) wd_47 wd_48 wd_16 (fun _ _ _ => rfl)) (
  e_more (s_dup (by decide +kernel)) (
  e_more (s_callI (idx := 9) k_X0_init (by decide +kernel) cl_X0_init wd_49 wd_50 ⟨rfl, rfl⟩ (e_sf_rec0 rfl) (by decide)) (
  e_more (s_aast (by decide +kernel) (by decide)) (
  e_more (s_iinc (z := 1) (n := 1) (by decide +kernel) (by decide) (by decide)) (
  e_more (s_goto (off := (-22)) (by decide +kernel) (by decide)) (
  e_more (s_ret (by decide +kernel) rfl) (
  e_no_more)))))))))))
def tb_X4_init : eTb := tb_X4_init_0 ++ tb_X4_init_1
theorem st_X4_init : ∀ x ∈ tb_X4_init, e_Sd e_r0 RX4 i_X4_init x.1 x.2 := e_app (st_X4_init_0) st_X4_init_1
def w_X4_init : eW := e_sf 0 (e_rn tb_X4_init (iL i_X4_init) 207 1411)
theorem k_X4_init : e_OK e_r0 i_X4_init 207 1411 w_X4_init := k_sf (k_rn (own := RX4) ⟨by decide +kernel, rfl⟩ st_X4_init)
