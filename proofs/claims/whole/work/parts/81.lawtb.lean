/-! The law: its tables. By program (wip/whole/q/gen79.py). Own work. -/
abbrev i_L_law : eI := (yL_law, cL_law, 9, some .boolean, 25)
def tb_LA (L : Nat) (xs : Nat → Int32) : eTb := [(0, t_new 4 0), (3, t_dup 3), (4, t_call 1 207 1411 w_X4_init 4), (7, t_stO 1 1 7), (8, t_new 5 8), (11, t_dup 11), (12, t_call 1 6 1378 w_X5_init 12), (15, t_stO 2 1 15), (16, t_push (.inl 1) 1 16), (17, t_newA 2 17), (19, t_stO 3 1 19)]
theorem st_LA {G : eG} (hG : gr G = e_r0) : ∀ x ∈ tb_LA (gn G) (gx G), e_Sg G RL i_L_law x.1 x.2 :=
  e_more (e_Sg.of (s_new (c := 4) (idx := 8) (by decide +kernel) (by decide) wd_98 wd_99 wd_73 (fun _ _ _ => rfl)) hG) (
  e_more (e_Sg.of (s_dup (by decide +kernel)) hG) (
  e_more (e_Sg.of (s_callI (idx := 97) k_X4_init (by decide +kernel) cl_X4_init wd_100 wd_101 ⟨rfl, rfl⟩ (e_sf_rec0 rfl) (by decide)) hG) (
  e_more (e_Sg.of (s_astore_n (k := 1) (by decide +kernel) rfl (by decide)) hG) (
  e_more (e_Sg.of (s_new (c := 5) (idx := 98) (by decide +kernel) (by decide) wd_1343 wd_1344 wd_82 (fun _ _ _ => rfl)) hG) (
  e_more (e_Sg.of (s_dup (by decide +kernel)) hG) (
  e_more (e_Sg.of (s_callI (idx := 100) k_X5_init (by decide +kernel) cl_X5_init wd_1345 wd_1346 ⟨rfl, rfl⟩ (e_sf_rec0 rfl) (by decide)) hG) (
  e_more (e_Sg.of (s_astore_n (k := 2) (by decide +kernel) rfl (by decide)) hG) (
  e_more (e_Sg.of (s_iconst (n := 1) (v := 1) (by decide +kernel) (by decide)) hG) (
  e_more (e_Sg.of (s_newA (t := 2) (at0 := .long) (by decide +kernel) (by decide) rfl wd_1789 (fun _ _ _ _ => rfl)) hG) (
  e_more (e_Sg.of (s_astore_n (k := 3) (by decide +kernel) rfl (by decide)) hG) (
  e_no_more)))))))))))
def tb_LH (L : Nat) (xs : Nat → Int32) : eTb := [(20, t_push (.inl 0) 1 20), (21, t_stI 4 2 21), (23, t_ldI 4 2 23), (25, t_ldO 0 1 25), (26, t_xlen L 26), (27, t_push (.inl 4) 1 27), (28, t_ii (fun a b => a - b) 28), (29, t_ic (fun a b => b < a) 1869 29), (32, t_ldO 0 1 32), (33, t_ldI 4 2 33), (35, t_xald L xs 35), (36, t_push (.inl 31) 2 36), (38, t_ii (fun a b => a &&& b) 38), (39, t_sw [(0, 180), (1, 236), (2, 292), (3, 360), (4, 416), (5, 484), (6, 540), (7, 608), (8, 676), (9, 732), (10, 800), (11, 856), (12, 912), (13, 925), (14, 938), (15, 982), (16, 1050), (17, 1094), (18, 1107), (19, 1151), (20, 1219), (21, 1287), (22, 1343), (23, 1423), (24, 1479), (25, 1547), (26, 1615), (27, 1671), (28, 1727), (29, 1740), (30, 1808), (31, 1849)] 1863)]
theorem st_LH {G : eG} (hG : gr G = e_rf) : ∀ x ∈ tb_LH (gn G) (gx G), e_Sg G RL i_L_law x.1 x.2 :=
  e_more (e_Sg.of (s_iconst (n := 0) (v := 0) (by decide +kernel) (by decide)) hG) (
  e_more (e_Sg.of (s_istore (by decide +kernel) (by decide)) hG) (
  e_more (e_Sg.of (s_iload (by decide +kernel)) hG) (
  e_more (e_Sg.of (s_aload_n (k := 0) (by decide +kernel) rfl) hG) (
  e_more (s_xlen (pc := 26) (by decide +kernel)) (
  e_more (e_Sg.of (s_iconst (n := 4) (v := 4) (by decide +kernel) (by decide)) hG) (
  e_more (e_Sg.of (s_isub (by decide +kernel)) hG) (
  e_more (e_Sg.of (s_ic_gt (off := 1840) (by decide +kernel) (by decide)) hG) (
  e_more (e_Sg.of (s_aload_n (k := 0) (by decide +kernel) rfl) hG) (
  e_more (e_Sg.of (s_iload (by decide +kernel)) hG) (
  e_more (s_xald (pc := 35) (by decide +kernel)) (
  e_more (e_Sg.of (s_bipush (n := 31) (v := 31) (by decide +kernel) (by decide)) hG) (
  e_more (e_Sg.of (s_iand (by decide +kernel)) hG) (
  e_more (e_Sg.of (s_table (dflt := 1824) (lo := 0) (hi := 31) (offs := #[141, 197, 253, 321, 377, 445, 501, 569, 637, 693, 761, 817, 873, 886, 899, 943, 1011, 1055, 1068, 1112, 1180, 1248, 1304, 1384, 1440, 1508, 1576, 1632, 1688, 1701, 1769, 1810]) (len := 141) (l := [(0, 180), (1, 236), (2, 292), (3, 360), (4, 416), (5, 484), (6, 540), (7, 608), (8, 676), (9, 732), (10, 800), (11, 856), (12, 912), (13, 925), (14, 938), (15, 982), (16, 1050), (17, 1094), (18, 1107), (19, 1151), (20, 1219), (21, 1287), (22, 1343), (23, 1423), (24, 1479), (25, 1547), (26, 1615), (27, 1671), (28, 1727), (29, 1740), (30, 1808), (31, 1849)]) (by decide +kernel) (by decide +kernel) (by decide +kernel) (by decide)) hG) (
  e_no_more))))))))))))))
def tb_L0 (L : Nat) (xs : Nat → Int32) : eTb := [(180, t_ldO 1 1 180), (181, t_ldO 0 1 181), (182, t_ldI 4 2 182), (184, t_push (.inl 1) 1 184), (185, t_ii (fun a b => a + b) 185), (186, t_xald L xs 186), (187, t_ldO 3 1 187), (188, t_call 3 1 6 w_L_pupil 188), (191, t_stI 5 2 191), (193, t_ldO 2 1 193), (194, t_ldO 0 1 194), (195, t_ldI 4 2 195), (197, t_push (.inl 1) 1 197), (198, t_ii (fun a b => a + b) 198), (199, t_xald L xs 199), (200, t_call0 2 w_X5_pupil 200), (203, t_stI 6 2 203), (205, t_ldO 2 1 205), (206, t_call0 1 w_X5_thrown 206), (209, t_ldI 5 2 209), (211, t_ic (fun a b => a = b) 216 211), (214, t_push (.inl 0) 1 214), (215, t_zret), (216, t_ldI 5 2 216), (218, t_ifn (fun a => a = 0) 233 218), (221, t_ldO 3 1 221), (222, t_push (.inl 0) 1 222), (223, t_lald 223), (224, t_ldI 6 2 224), (226, t_i1 (fun a => .inr (.inl a.toInt64)) 226), (227, t_ll (fun a b => .inl (lg_cmp a b)) 227), (228, t_if (fun a => a = 0) 233 228), (231, t_push (.inl 0) 1 231), (232, t_zret), (233, t_goto 1863)]
theorem st_L0 {G : eG} (hG : gr G = e_rf) : ∀ x ∈ tb_L0 (gn G) (gx G), e_Sg G RL i_L_law x.1 x.2 :=
  e_more (e_Sg.of (s_aload_n (k := 1) (by decide +kernel) rfl) hG) (
  e_more (e_Sg.of (s_aload_n (k := 0) (by decide +kernel) rfl) hG) (
  e_more (e_Sg.of (s_iload (by decide +kernel)) hG) (
  e_more (e_Sg.of (s_iconst (n := 1) (v := 1) (by decide +kernel) (by decide)) hG) (
  e_more (e_Sg.of (s_iadd (by decide +kernel)) hG) (
  e_more (s_xald (pc := 186) (by decide +kernel)) (
  e_more (e_Sg.of (s_aload_n (k := 3) (by decide +kernel) rfl) hG) (
  e_more (s_callSH (idx := 101) hG k_L_pupil (by decide +kernel) cl_L_pupil wd_947 wd_948 (by decide)) (
  e_more (e_Sg.of (s_istore (by decide +kernel) (by decide)) hG) (
  e_more (e_Sg.of (s_aload_n (k := 2) (by decide +kernel) rfl) hG) (
  e_more (e_Sg.of (s_aload_n (k := 0) (by decide +kernel) rfl) hG) (
  e_more (e_Sg.of (s_iload (by decide +kernel)) hG) (
  e_more (e_Sg.of (s_iconst (n := 1) (v := 1) (by decide +kernel) (by decide)) hG) (
  e_more (e_Sg.of (s_iadd (by decide +kernel)) hG) (
  e_more (s_xald (pc := 199) (by decide +kernel)) (
  e_more (e_Sg.of (e_call0 (s_callV (c := 5) (idx := 106) k_X5_pupil (by decide +kernel) cl_X5_pupil (by decide) rfl wd_1402 wd_1403 wd_1404 (by decide) (e_sf_rec rfl))) hG) (
  e_more (e_Sg.of (s_istore (by decide +kernel) (by decide)) hG) (
  e_more (e_Sg.of (s_aload_n (k := 2) (by decide +kernel) rfl) hG) (
  e_more (e_Sg.of (e_call0 (s_callV (c := 5) (idx := 107) k_X5_thrown (by decide +kernel) cl_X5_thrown (by decide) rfl wd_1398 wd_1399 wd_1400 (by decide) (e_sf_rec rfl))) hG) (
  e_more (e_Sg.of (s_iload (by decide +kernel)) hG) (
  e_more (e_Sg.of (s_ic_eq (off := 5) (by decide +kernel) (by decide)) hG) (
  e_more (e_Sg.of (s_iconst (n := 0) (v := 0) (by decide +kernel) (by decide)) hG) (
  e_more (e_Sg.of (s_zret (by decide +kernel) rfl) hG) (
  e_more (e_Sg.of (s_iload (by decide +kernel)) hG) (
  e_more (e_Sg.of (s_if_ne (off := 15) (by decide +kernel) (by decide)) hG) (
  e_more (e_Sg.of (s_aload_n (k := 3) (by decide +kernel) rfl) hG) (
  e_more (e_Sg.of (s_iconst (n := 0) (v := 0) (by decide +kernel) (by decide)) hG) (
  e_more (e_Sg.of (s_lald (by decide +kernel)) hG) (
  e_more (e_Sg.of (s_iload (by decide +kernel)) hG) (
  e_more (e_Sg.of (s_i2l (by decide +kernel)) hG) (
  e_more (e_Sg.of (s_lcmp (by decide +kernel)) hG) (
  e_more (e_Sg.of (s_if_eq (off := 5) (by decide +kernel) (by decide)) hG) (
  e_more (e_Sg.of (s_iconst (n := 0) (v := 0) (by decide +kernel) (by decide)) hG) (
  e_more (e_Sg.of (s_zret (by decide +kernel) rfl) hG) (
  e_more (e_Sg.of (s_goto (off := 1630) (by decide +kernel) (by decide)) hG) (
  e_no_more)))))))))))))))))))))))))))))))))))
def tb_L1 (L : Nat) (xs : Nat → Int32) : eTb := [(236, t_ldO 1 1 236), (237, t_ldO 0 1 237), (238, t_ldI 4 2 238), (240, t_push (.inl 1) 1 240), (241, t_ii (fun a b => a + b) 241), (242, t_xald L xs 242), (243, t_ldO 3 1 243), (244, t_call 3 1 6 w_L_instrument 244), (247, t_stI 5 2 247), (249, t_ldO 2 1 249), (250, t_ldO 0 1 250), (251, t_ldI 4 2 251), (253, t_push (.inl 1) 1 253), (254, t_ii (fun a b => a + b) 254), (255, t_xald L xs 255), (256, t_call0 2 w_X5_instrument 256), (259, t_stI 6 2 259), (261, t_ldO 2 1 261), (262, t_call0 1 w_X5_thrown 262), (265, t_ldI 5 2 265), (267, t_ic (fun a b => a = b) 272 267), (270, t_push (.inl 0) 1 270), (271, t_zret), (272, t_ldI 5 2 272), (274, t_ifn (fun a => a = 0) 289 274), (277, t_ldO 3 1 277), (278, t_push (.inl 0) 1 278), (279, t_lald 279), (280, t_ldI 6 2 280), (282, t_i1 (fun a => .inr (.inl a.toInt64)) 282), (283, t_ll (fun a b => .inl (lg_cmp a b)) 283), (284, t_if (fun a => a = 0) 289 284), (287, t_push (.inl 0) 1 287), (288, t_zret), (289, t_goto 1863)]
theorem st_L1 {G : eG} (hG : gr G = e_rf) : ∀ x ∈ tb_L1 (gn G) (gx G), e_Sg G RL i_L_law x.1 x.2 :=
  e_more (e_Sg.of (s_aload_n (k := 1) (by decide +kernel) rfl) hG) (
  e_more (e_Sg.of (s_aload_n (k := 0) (by decide +kernel) rfl) hG) (
  e_more (e_Sg.of (s_iload (by decide +kernel)) hG) (
  e_more (e_Sg.of (s_iconst (n := 1) (v := 1) (by decide +kernel) (by decide)) hG) (
  e_more (e_Sg.of (s_iadd (by decide +kernel)) hG) (
  e_more (s_xald (pc := 242) (by decide +kernel)) (
  e_more (e_Sg.of (s_aload_n (k := 3) (by decide +kernel) rfl) hG) (
  e_more (s_callSH (idx := 110) hG k_L_instrument (by decide +kernel) cl_L_instrument wd_991 wd_992 (by decide)) (
  e_more (e_Sg.of (s_istore (by decide +kernel) (by decide)) hG) (
  e_more (e_Sg.of (s_aload_n (k := 2) (by decide +kernel) rfl) hG) (
  e_more (e_Sg.of (s_aload_n (k := 0) (by decide +kernel) rfl) hG) (
  e_more (e_Sg.of (s_iload (by decide +kernel)) hG) (
  e_more (e_Sg.of (s_iconst (n := 1) (v := 1) (by decide +kernel) (by decide)) hG) (
  e_more (e_Sg.of (s_iadd (by decide +kernel)) hG) (
  e_more (s_xald (pc := 255) (by decide +kernel)) (
  e_more (e_Sg.of (e_call0 (s_callV (c := 5) (idx := 112) k_X5_instrument (by decide +kernel) cl_X5_instrument (by decide) rfl wd_1424 wd_1425 wd_1426 (by decide) (e_sf_rec rfl))) hG) (
  e_more (e_Sg.of (s_istore (by decide +kernel) (by decide)) hG) (
  e_more (e_Sg.of (s_aload_n (k := 2) (by decide +kernel) rfl) hG) (
  e_more (e_Sg.of (e_call0 (s_callV (c := 5) (idx := 107) k_X5_thrown (by decide +kernel) cl_X5_thrown (by decide) rfl wd_1398 wd_1399 wd_1400 (by decide) (e_sf_rec rfl))) hG) (
  e_more (e_Sg.of (s_iload (by decide +kernel)) hG) (
  e_more (e_Sg.of (s_ic_eq (off := 5) (by decide +kernel) (by decide)) hG) (
  e_more (e_Sg.of (s_iconst (n := 0) (v := 0) (by decide +kernel) (by decide)) hG) (
  e_more (e_Sg.of (s_zret (by decide +kernel) rfl) hG) (
  e_more (e_Sg.of (s_iload (by decide +kernel)) hG) (
  e_more (e_Sg.of (s_if_ne (off := 15) (by decide +kernel) (by decide)) hG) (
  e_more (e_Sg.of (s_aload_n (k := 3) (by decide +kernel) rfl) hG) (
  e_more (e_Sg.of (s_iconst (n := 0) (v := 0) (by decide +kernel) (by decide)) hG) (
  e_more (e_Sg.of (s_lald (by decide +kernel)) hG) (
  e_more (e_Sg.of (s_iload (by decide +kernel)) hG) (
  e_more (e_Sg.of (s_i2l (by decide +kernel)) hG) (
  e_more (e_Sg.of (s_lcmp (by decide +kernel)) hG) (
  e_more (e_Sg.of (s_if_eq (off := 5) (by decide +kernel) (by decide)) hG) (
  e_more (e_Sg.of (s_iconst (n := 0) (v := 0) (by decide +kernel) (by decide)) hG) (
  e_more (e_Sg.of (s_zret (by decide +kernel) rfl) hG) (
  e_more (e_Sg.of (s_goto (off := 1574) (by decide +kernel) (by decide)) hG) (
  e_no_more)))))))))))))))))))))))))))))))))))
def tb_L2 (L : Nat) (xs : Nat → Int32) : eTb := [(292, t_ldO 1 1 292), (293, t_ldO 0 1 293), (294, t_ldI 4 2 294), (296, t_push (.inl 1) 1 296), (297, t_ii (fun a b => a + b) 297), (298, t_xald L xs 298), (299, t_ldO 0 1 299), (300, t_ldI 4 2 300), (302, t_push (.inl 2) 1 302), (303, t_ii (fun a b => a + b) 303), (304, t_xald L xs 304), (305, t_ldO 3 1 305), (306, t_call 4 1 6 w_L_lend 306), (309, t_stI 5 2 309), (311, t_ldO 2 1 311), (312, t_ldO 0 1 312), (313, t_ldI 4 2 313), (315, t_push (.inl 1) 1 315), (316, t_ii (fun a b => a + b) 316), (317, t_xald L xs 317), (318, t_ldO 0 1 318), (319, t_ldI 4 2 319), (321, t_push (.inl 2) 1 321), (322, t_ii (fun a b => a + b) 322), (323, t_xald L xs 323), (324, t_call0 3 w_X5_lend 324), (327, t_stI 6 2 327), (329, t_ldO 2 1 329), (330, t_call0 1 w_X5_thrown 330), (333, t_ldI 5 2 333), (335, t_ic (fun a b => a = b) 340 335), (338, t_push (.inl 0) 1 338), (339, t_zret), (340, t_ldI 5 2 340), (342, t_ifn (fun a => a = 0) 357 342), (345, t_ldO 3 1 345), (346, t_push (.inl 0) 1 346), (347, t_lald 347), (348, t_ldI 6 2 348), (350, t_i1 (fun a => .inr (.inl a.toInt64)) 350), (351, t_ll (fun a b => .inl (lg_cmp a b)) 351), (352, t_if (fun a => a = 0) 357 352), (355, t_push (.inl 0) 1 355), (356, t_zret), (357, t_goto 1863)]
theorem st_L2 {G : eG} (hG : gr G = e_rf) : ∀ x ∈ tb_L2 (gn G) (gx G), e_Sg G RL i_L_law x.1 x.2 :=
  e_more (e_Sg.of (s_aload_n (k := 1) (by decide +kernel) rfl) hG) (
  e_more (e_Sg.of (s_aload_n (k := 0) (by decide +kernel) rfl) hG) (
  e_more (e_Sg.of (s_iload (by decide +kernel)) hG) (
  e_more (e_Sg.of (s_iconst (n := 1) (v := 1) (by decide +kernel) (by decide)) hG) (
  e_more (e_Sg.of (s_iadd (by decide +kernel)) hG) (
  e_more (s_xald (pc := 298) (by decide +kernel)) (
  e_more (e_Sg.of (s_aload_n (k := 0) (by decide +kernel) rfl) hG) (
  e_more (e_Sg.of (s_iload (by decide +kernel)) hG) (
  e_more (e_Sg.of (s_iconst (n := 2) (v := 2) (by decide +kernel) (by decide)) hG) (
  e_more (e_Sg.of (s_iadd (by decide +kernel)) hG) (
  e_more (s_xald (pc := 304) (by decide +kernel)) (
  e_more (e_Sg.of (s_aload_n (k := 3) (by decide +kernel) rfl) hG) (
  e_more (s_callSH (idx := 113) hG k_L_lend (by decide +kernel) cl_L_lend wd_1012 wd_1013 (by decide)) (
  e_more (e_Sg.of (s_istore (by decide +kernel) (by decide)) hG) (
  e_more (e_Sg.of (s_aload_n (k := 2) (by decide +kernel) rfl) hG) (
  e_more (e_Sg.of (s_aload_n (k := 0) (by decide +kernel) rfl) hG) (
  e_more (e_Sg.of (s_iload (by decide +kernel)) hG) (
  e_more (e_Sg.of (s_iconst (n := 1) (v := 1) (by decide +kernel) (by decide)) hG) (
  e_more (e_Sg.of (s_iadd (by decide +kernel)) hG) (
  e_more (s_xald (pc := 317) (by decide +kernel)) (
  e_more (e_Sg.of (s_aload_n (k := 0) (by decide +kernel) rfl) hG) (
  e_more (e_Sg.of (s_iload (by decide +kernel)) hG) (
  e_more (e_Sg.of (s_iconst (n := 2) (v := 2) (by decide +kernel) (by decide)) hG) (
  e_more (e_Sg.of (s_iadd (by decide +kernel)) hG) (
  e_more (s_xald (pc := 323) (by decide +kernel)) (
  e_more (e_Sg.of (e_call0 (s_callV (c := 5) (idx := 116) k_X5_lend (by decide +kernel) cl_X5_lend (by decide) rfl wd_1432 wd_1433 wd_1434 (by decide) (e_sf_rec rfl))) hG) (
  e_more (e_Sg.of (s_istore (by decide +kernel) (by decide)) hG) (
  e_more (e_Sg.of (s_aload_n (k := 2) (by decide +kernel) rfl) hG) (
  e_more (e_Sg.of (e_call0 (s_callV (c := 5) (idx := 107) k_X5_thrown (by decide +kernel) cl_X5_thrown (by decide) rfl wd_1398 wd_1399 wd_1400 (by decide) (e_sf_rec rfl))) hG) (
  e_more (e_Sg.of (s_iload (by decide +kernel)) hG) (
  e_more (e_Sg.of (s_ic_eq (off := 5) (by decide +kernel) (by decide)) hG) (
  e_more (e_Sg.of (s_iconst (n := 0) (v := 0) (by decide +kernel) (by decide)) hG) (
  e_more (e_Sg.of (s_zret (by decide +kernel) rfl) hG) (
  e_more (e_Sg.of (s_iload (by decide +kernel)) hG) (
  e_more (e_Sg.of (s_if_ne (off := 15) (by decide +kernel) (by decide)) hG) (
  e_more (e_Sg.of (s_aload_n (k := 3) (by decide +kernel) rfl) hG) (
  e_more (e_Sg.of (s_iconst (n := 0) (v := 0) (by decide +kernel) (by decide)) hG) (
  e_more (e_Sg.of (s_lald (by decide +kernel)) hG) (
  e_more (e_Sg.of (s_iload (by decide +kernel)) hG) (
  e_more (e_Sg.of (s_i2l (by decide +kernel)) hG) (
  e_more (e_Sg.of (s_lcmp (by decide +kernel)) hG) (
  e_more (e_Sg.of (s_if_eq (off := 5) (by decide +kernel) (by decide)) hG) (
  e_more (e_Sg.of (s_iconst (n := 0) (v := 0) (by decide +kernel) (by decide)) hG) (
  e_more (e_Sg.of (s_zret (by decide +kernel) rfl) hG) (
  e_more (e_Sg.of (s_goto (off := 1506) (by decide +kernel) (by decide)) hG) (
  e_no_more)))))))))))))))))))))))))))))))))))))))))))))
def tb_L3 (L : Nat) (xs : Nat → Int32) : eTb := [(360, t_ldO 1 1 360), (361, t_ldO 0 1 361), (362, t_ldI 4 2 362), (364, t_push (.inl 1) 1 364), (365, t_ii (fun a b => a + b) 365), (366, t_xald L xs 366), (367, t_ldO 3 1 367), (368, t_call 3 1 6 w_L_back 368), (371, t_stI 5 2 371), (373, t_ldO 2 1 373), (374, t_ldO 0 1 374), (375, t_ldI 4 2 375), (377, t_push (.inl 1) 1 377), (378, t_ii (fun a b => a + b) 378), (379, t_xald L xs 379), (380, t_call0 2 w_X5_back 380), (383, t_stI 6 2 383), (385, t_ldO 2 1 385), (386, t_call0 1 w_X5_thrown 386), (389, t_ldI 5 2 389), (391, t_ic (fun a b => a = b) 396 391), (394, t_push (.inl 0) 1 394), (395, t_zret), (396, t_ldI 5 2 396), (398, t_ifn (fun a => a = 0) 413 398), (401, t_ldO 3 1 401), (402, t_push (.inl 0) 1 402), (403, t_lald 403), (404, t_ldI 6 2 404), (406, t_i1 (fun a => .inr (.inl a.toInt64)) 406), (407, t_ll (fun a b => .inl (lg_cmp a b)) 407), (408, t_if (fun a => a = 0) 413 408), (411, t_push (.inl 0) 1 411), (412, t_zret), (413, t_goto 1863)]
theorem st_L3 {G : eG} (hG : gr G = e_rf) : ∀ x ∈ tb_L3 (gn G) (gx G), e_Sg G RL i_L_law x.1 x.2 :=
  e_more (e_Sg.of (s_aload_n (k := 1) (by decide +kernel) rfl) hG) (
  e_more (e_Sg.of (s_aload_n (k := 0) (by decide +kernel) rfl) hG) (
  e_more (e_Sg.of (s_iload (by decide +kernel)) hG) (
  e_more (e_Sg.of (s_iconst (n := 1) (v := 1) (by decide +kernel) (by decide)) hG) (
  e_more (e_Sg.of (s_iadd (by decide +kernel)) hG) (
  e_more (s_xald (pc := 366) (by decide +kernel)) (
  e_more (e_Sg.of (s_aload_n (k := 3) (by decide +kernel) rfl) hG) (
  e_more (s_callSH (idx := 117) hG k_L_back (by decide +kernel) cl_L_back wd_1045 wd_1046 (by decide)) (
  e_more (e_Sg.of (s_istore (by decide +kernel) (by decide)) hG) (
  e_more (e_Sg.of (s_aload_n (k := 2) (by decide +kernel) rfl) hG) (
  e_more (e_Sg.of (s_aload_n (k := 0) (by decide +kernel) rfl) hG) (
  e_more (e_Sg.of (s_iload (by decide +kernel)) hG) (
  e_more (e_Sg.of (s_iconst (n := 1) (v := 1) (by decide +kernel) (by decide)) hG) (
  e_more (e_Sg.of (s_iadd (by decide +kernel)) hG) (
  e_more (s_xald (pc := 379) (by decide +kernel)) (
  e_more (e_Sg.of (e_call0 (s_callV (c := 5) (idx := 119) k_X5_back (by decide +kernel) cl_X5_back (by decide) rfl wd_1468 wd_1469 wd_1470 (by decide) (e_sf_rec rfl))) hG) (
  e_more (e_Sg.of (s_istore (by decide +kernel) (by decide)) hG) (
  e_more (e_Sg.of (s_aload_n (k := 2) (by decide +kernel) rfl) hG) (
  e_more (e_Sg.of (e_call0 (s_callV (c := 5) (idx := 107) k_X5_thrown (by decide +kernel) cl_X5_thrown (by decide) rfl wd_1398 wd_1399 wd_1400 (by decide) (e_sf_rec rfl))) hG) (
  e_more (e_Sg.of (s_iload (by decide +kernel)) hG) (
  e_more (e_Sg.of (s_ic_eq (off := 5) (by decide +kernel) (by decide)) hG) (
  e_more (e_Sg.of (s_iconst (n := 0) (v := 0) (by decide +kernel) (by decide)) hG) (
  e_more (e_Sg.of (s_zret (by decide +kernel) rfl) hG) (
  e_more (e_Sg.of (s_iload (by decide +kernel)) hG) (
  e_more (e_Sg.of (s_if_ne (off := 15) (by decide +kernel) (by decide)) hG) (
  e_more (e_Sg.of (s_aload_n (k := 3) (by decide +kernel) rfl) hG) (
  e_more (e_Sg.of (s_iconst (n := 0) (v := 0) (by decide +kernel) (by decide)) hG) (
  e_more (e_Sg.of (s_lald (by decide +kernel)) hG) (
  e_more (e_Sg.of (s_iload (by decide +kernel)) hG) (
  e_more (e_Sg.of (s_i2l (by decide +kernel)) hG) (
  e_more (e_Sg.of (s_lcmp (by decide +kernel)) hG) (
  e_more (e_Sg.of (s_if_eq (off := 5) (by decide +kernel) (by decide)) hG) (
  e_more (e_Sg.of (s_iconst (n := 0) (v := 0) (by decide +kernel) (by decide)) hG) (
  e_more (e_Sg.of (s_zret (by decide +kernel) rfl) hG) (
  e_more (e_Sg.of (s_goto (off := 1450) (by decide +kernel) (by decide)) hG) (
  e_no_more)))))))))))))))))))))))))))))))))))
def tb_L4 (L : Nat) (xs : Nat → Int32) : eTb := [(416, t_ldO 1 1 416), (417, t_ldO 0 1 417), (418, t_ldI 4 2 418), (420, t_push (.inl 1) 1 420), (421, t_ii (fun a b => a + b) 421), (422, t_xald L xs 422), (423, t_ldO 0 1 423), (424, t_ldI 4 2 424), (426, t_push (.inl 2) 1 426), (427, t_ii (fun a b => a + b) 427), (428, t_xald L xs 428), (429, t_ldO 3 1 429), (430, t_call 4 1 6 w_L_dent 430), (433, t_stI 5 2 433), (435, t_ldO 2 1 435), (436, t_ldO 0 1 436), (437, t_ldI 4 2 437), (439, t_push (.inl 1) 1 439), (440, t_ii (fun a b => a + b) 440), (441, t_xald L xs 441), (442, t_ldO 0 1 442), (443, t_ldI 4 2 443), (445, t_push (.inl 2) 1 445), (446, t_ii (fun a b => a + b) 446), (447, t_xald L xs 447), (448, t_call0 3 w_X5_dent 448), (451, t_stI 6 2 451), (453, t_ldO 2 1 453), (454, t_call0 1 w_X5_thrown 454), (457, t_ldI 5 2 457), (459, t_ic (fun a b => a = b) 464 459), (462, t_push (.inl 0) 1 462), (463, t_zret), (464, t_ldI 5 2 464), (466, t_ifn (fun a => a = 0) 481 466), (469, t_ldO 3 1 469), (470, t_push (.inl 0) 1 470), (471, t_lald 471), (472, t_ldI 6 2 472), (474, t_i1 (fun a => .inr (.inl a.toInt64)) 474), (475, t_ll (fun a b => .inl (lg_cmp a b)) 475), (476, t_if (fun a => a = 0) 481 476), (479, t_push (.inl 0) 1 479), (480, t_zret), (481, t_goto 1863)]
theorem st_L4 {G : eG} (hG : gr G = e_rf) : ∀ x ∈ tb_L4 (gn G) (gx G), e_Sg G RL i_L_law x.1 x.2 :=
  e_more (e_Sg.of (s_aload_n (k := 1) (by decide +kernel) rfl) hG) (
  e_more (e_Sg.of (s_aload_n (k := 0) (by decide +kernel) rfl) hG) (
  e_more (e_Sg.of (s_iload (by decide +kernel)) hG) (
  e_more (e_Sg.of (s_iconst (n := 1) (v := 1) (by decide +kernel) (by decide)) hG) (
  e_more (e_Sg.of (s_iadd (by decide +kernel)) hG) (
  e_more (s_xald (pc := 422) (by decide +kernel)) (
  e_more (e_Sg.of (s_aload_n (k := 0) (by decide +kernel) rfl) hG) (
  e_more (e_Sg.of (s_iload (by decide +kernel)) hG) (
  e_more (e_Sg.of (s_iconst (n := 2) (v := 2) (by decide +kernel) (by decide)) hG) (
  e_more (e_Sg.of (s_iadd (by decide +kernel)) hG) (
  e_more (s_xald (pc := 428) (by decide +kernel)) (
  e_more (e_Sg.of (s_aload_n (k := 3) (by decide +kernel) rfl) hG) (
  e_more (s_callSH (idx := 120) hG k_L_dent (by decide +kernel) cl_L_dent wd_1069 wd_1070 (by decide)) (
  e_more (e_Sg.of (s_istore (by decide +kernel) (by decide)) hG) (
  e_more (e_Sg.of (s_aload_n (k := 2) (by decide +kernel) rfl) hG) (
  e_more (e_Sg.of (s_aload_n (k := 0) (by decide +kernel) rfl) hG) (
  e_more (e_Sg.of (s_iload (by decide +kernel)) hG) (
  e_more (e_Sg.of (s_iconst (n := 1) (v := 1) (by decide +kernel) (by decide)) hG) (
  e_more (e_Sg.of (s_iadd (by decide +kernel)) hG) (
  e_more (s_xald (pc := 441) (by decide +kernel)) (
  e_more (e_Sg.of (s_aload_n (k := 0) (by decide +kernel) rfl) hG) (
  e_more (e_Sg.of (s_iload (by decide +kernel)) hG) (
  e_more (e_Sg.of (s_iconst (n := 2) (v := 2) (by decide +kernel) (by decide)) hG) (
  e_more (e_Sg.of (s_iadd (by decide +kernel)) hG) (
  e_more (s_xald (pc := 447) (by decide +kernel)) (
  e_more (e_Sg.of (e_call0 (s_callV (c := 5) (idx := 122) k_X5_dent (by decide +kernel) cl_X5_dent (by decide) rfl wd_1480 wd_1481 wd_1482 (by decide) (e_sf_rec rfl))) hG) (
  e_more (e_Sg.of (s_istore (by decide +kernel) (by decide)) hG) (
  e_more (e_Sg.of (s_aload_n (k := 2) (by decide +kernel) rfl) hG) (
  e_more (e_Sg.of (e_call0 (s_callV (c := 5) (idx := 107) k_X5_thrown (by decide +kernel) cl_X5_thrown (by decide) rfl wd_1398 wd_1399 wd_1400 (by decide) (e_sf_rec rfl))) hG) (
  e_more (e_Sg.of (s_iload (by decide +kernel)) hG) (
  e_more (e_Sg.of (s_ic_eq (off := 5) (by decide +kernel) (by decide)) hG) (
  e_more (e_Sg.of (s_iconst (n := 0) (v := 0) (by decide +kernel) (by decide)) hG) (
  e_more (e_Sg.of (s_zret (by decide +kernel) rfl) hG) (
  e_more (e_Sg.of (s_iload (by decide +kernel)) hG) (
  e_more (e_Sg.of (s_if_ne (off := 15) (by decide +kernel) (by decide)) hG) (
  e_more (e_Sg.of (s_aload_n (k := 3) (by decide +kernel) rfl) hG) (
  e_more (e_Sg.of (s_iconst (n := 0) (v := 0) (by decide +kernel) (by decide)) hG) (
  e_more (e_Sg.of (s_lald (by decide +kernel)) hG) (
  e_more (e_Sg.of (s_iload (by decide +kernel)) hG) (
  e_more (e_Sg.of (s_i2l (by decide +kernel)) hG) (
  e_more (e_Sg.of (s_lcmp (by decide +kernel)) hG) (
  e_more (e_Sg.of (s_if_eq (off := 5) (by decide +kernel) (by decide)) hG) (
  e_more (e_Sg.of (s_iconst (n := 0) (v := 0) (by decide +kernel) (by decide)) hG) (
  e_more (e_Sg.of (s_zret (by decide +kernel) rfl) hG) (
  e_more (e_Sg.of (s_goto (off := 1382) (by decide +kernel) (by decide)) hG) (
  e_no_more)))))))))))))))))))))))))))))))))))))))))))))
def tb_L5 (L : Nat) (xs : Nat → Int32) : eTb := [(484, t_ldO 1 1 484), (485, t_ldO 0 1 485), (486, t_ldI 4 2 486), (488, t_push (.inl 1) 1 488), (489, t_ii (fun a b => a + b) 489), (490, t_xald L xs 490), (491, t_ldO 3 1 491), (492, t_call 3 1 6 w_L_mend 492), (495, t_stI 5 2 495), (497, t_ldO 2 1 497), (498, t_ldO 0 1 498), (499, t_ldI 4 2 499), (501, t_push (.inl 1) 1 501), (502, t_ii (fun a b => a + b) 502), (503, t_xald L xs 503), (504, t_call0 2 w_X5_mend 504), (507, t_stI 6 2 507), (509, t_ldO 2 1 509), (510, t_call0 1 w_X5_thrown 510), (513, t_ldI 5 2 513), (515, t_ic (fun a b => a = b) 520 515), (518, t_push (.inl 0) 1 518), (519, t_zret), (520, t_ldI 5 2 520), (522, t_ifn (fun a => a = 0) 537 522), (525, t_ldO 3 1 525), (526, t_push (.inl 0) 1 526), (527, t_lald 527), (528, t_ldI 6 2 528), (530, t_i1 (fun a => .inr (.inl a.toInt64)) 530), (531, t_ll (fun a b => .inl (lg_cmp a b)) 531), (532, t_if (fun a => a = 0) 537 532), (535, t_push (.inl 0) 1 535), (536, t_zret), (537, t_goto 1863)]
theorem st_L5 {G : eG} (hG : gr G = e_rf) : ∀ x ∈ tb_L5 (gn G) (gx G), e_Sg G RL i_L_law x.1 x.2 :=
  e_more (e_Sg.of (s_aload_n (k := 1) (by decide +kernel) rfl) hG) (
  e_more (e_Sg.of (s_aload_n (k := 0) (by decide +kernel) rfl) hG) (
  e_more (e_Sg.of (s_iload (by decide +kernel)) hG) (
  e_more (e_Sg.of (s_iconst (n := 1) (v := 1) (by decide +kernel) (by decide)) hG) (
  e_more (e_Sg.of (s_iadd (by decide +kernel)) hG) (
  e_more (s_xald (pc := 490) (by decide +kernel)) (
  e_more (e_Sg.of (s_aload_n (k := 3) (by decide +kernel) rfl) hG) (
  e_more (s_callSH (idx := 123) hG k_L_mend (by decide +kernel) cl_L_mend wd_1082 wd_1083 (by decide)) (
  e_more (e_Sg.of (s_istore (by decide +kernel) (by decide)) hG) (
  e_more (e_Sg.of (s_aload_n (k := 2) (by decide +kernel) rfl) hG) (
  e_more (e_Sg.of (s_aload_n (k := 0) (by decide +kernel) rfl) hG) (
  e_more (e_Sg.of (s_iload (by decide +kernel)) hG) (
  e_more (e_Sg.of (s_iconst (n := 1) (v := 1) (by decide +kernel) (by decide)) hG) (
  e_more (e_Sg.of (s_iadd (by decide +kernel)) hG) (
  e_more (s_xald (pc := 503) (by decide +kernel)) (
  e_more (e_Sg.of (e_call0 (s_callV (c := 5) (idx := 125) k_X5_mend (by decide +kernel) cl_X5_mend (by decide) rfl wd_1488 wd_1489 wd_1490 (by decide) (e_sf_rec rfl))) hG) (
  e_more (e_Sg.of (s_istore (by decide +kernel) (by decide)) hG) (
  e_more (e_Sg.of (s_aload_n (k := 2) (by decide +kernel) rfl) hG) (
  e_more (e_Sg.of (e_call0 (s_callV (c := 5) (idx := 107) k_X5_thrown (by decide +kernel) cl_X5_thrown (by decide) rfl wd_1398 wd_1399 wd_1400 (by decide) (e_sf_rec rfl))) hG) (
  e_more (e_Sg.of (s_iload (by decide +kernel)) hG) (
  e_more (e_Sg.of (s_ic_eq (off := 5) (by decide +kernel) (by decide)) hG) (
  e_more (e_Sg.of (s_iconst (n := 0) (v := 0) (by decide +kernel) (by decide)) hG) (
  e_more (e_Sg.of (s_zret (by decide +kernel) rfl) hG) (
  e_more (e_Sg.of (s_iload (by decide +kernel)) hG) (
  e_more (e_Sg.of (s_if_ne (off := 15) (by decide +kernel) (by decide)) hG) (
  e_more (e_Sg.of (s_aload_n (k := 3) (by decide +kernel) rfl) hG) (
  e_more (e_Sg.of (s_iconst (n := 0) (v := 0) (by decide +kernel) (by decide)) hG) (
  e_more (e_Sg.of (s_lald (by decide +kernel)) hG) (
  e_more (e_Sg.of (s_iload (by decide +kernel)) hG) (
  e_more (e_Sg.of (s_i2l (by decide +kernel)) hG) (
  e_more (e_Sg.of (s_lcmp (by decide +kernel)) hG) (
  e_more (e_Sg.of (s_if_eq (off := 5) (by decide +kernel) (by decide)) hG) (
  e_more (e_Sg.of (s_iconst (n := 0) (v := 0) (by decide +kernel) (by decide)) hG) (
  e_more (e_Sg.of (s_zret (by decide +kernel) rfl) hG) (
  e_more (e_Sg.of (s_goto (off := 1326) (by decide +kernel) (by decide)) hG) (
  e_no_more)))))))))))))))))))))))))))))))))))
def tb_L6 (L : Nat) (xs : Nat → Int32) : eTb := [(540, t_ldO 1 1 540), (541, t_ldO 0 1 541), (542, t_ldI 4 2 542), (544, t_push (.inl 1) 1 544), (545, t_ii (fun a b => a + b) 545), (546, t_xald L xs 546), (547, t_ldO 0 1 547), (548, t_ldI 4 2 548), (550, t_push (.inl 2) 1 550), (551, t_ii (fun a b => a + b) 551), (552, t_xald L xs 552), (553, t_ldO 3 1 553), (554, t_call 4 1 6 w_L_pay 554), (557, t_stI 5 2 557), (559, t_ldO 2 1 559), (560, t_ldO 0 1 560), (561, t_ldI 4 2 561), (563, t_push (.inl 1) 1 563), (564, t_ii (fun a b => a + b) 564), (565, t_xald L xs 565), (566, t_ldO 0 1 566), (567, t_ldI 4 2 567), (569, t_push (.inl 2) 1 569), (570, t_ii (fun a b => a + b) 570), (571, t_xald L xs 571), (572, t_call0 3 w_X5_pay 572), (575, t_stI 6 2 575), (577, t_ldO 2 1 577), (578, t_call0 1 w_X5_thrown 578), (581, t_ldI 5 2 581), (583, t_ic (fun a b => a = b) 588 583), (586, t_push (.inl 0) 1 586), (587, t_zret), (588, t_ldI 5 2 588), (590, t_ifn (fun a => a = 0) 605 590), (593, t_ldO 3 1 593), (594, t_push (.inl 0) 1 594), (595, t_lald 595), (596, t_ldI 6 2 596), (598, t_i1 (fun a => .inr (.inl a.toInt64)) 598), (599, t_ll (fun a b => .inl (lg_cmp a b)) 599), (600, t_if (fun a => a = 0) 605 600), (603, t_push (.inl 0) 1 603), (604, t_zret), (605, t_goto 1863)]
theorem st_L6 {G : eG} (hG : gr G = e_rf) : ∀ x ∈ tb_L6 (gn G) (gx G), e_Sg G RL i_L_law x.1 x.2 :=
  e_more (e_Sg.of (s_aload_n (k := 1) (by decide +kernel) rfl) hG) (
  e_more (e_Sg.of (s_aload_n (k := 0) (by decide +kernel) rfl) hG) (
  e_more (e_Sg.of (s_iload (by decide +kernel)) hG) (
  e_more (e_Sg.of (s_iconst (n := 1) (v := 1) (by decide +kernel) (by decide)) hG) (
  e_more (e_Sg.of (s_iadd (by decide +kernel)) hG) (
  e_more (s_xald (pc := 546) (by decide +kernel)) (
  e_more (e_Sg.of (s_aload_n (k := 0) (by decide +kernel) rfl) hG) (
  e_more (e_Sg.of (s_iload (by decide +kernel)) hG) (
  e_more (e_Sg.of (s_iconst (n := 2) (v := 2) (by decide +kernel) (by decide)) hG) (
  e_more (e_Sg.of (s_iadd (by decide +kernel)) hG) (
  e_more (s_xald (pc := 552) (by decide +kernel)) (
  e_more (e_Sg.of (s_aload_n (k := 3) (by decide +kernel) rfl) hG) (
  e_more (s_callSH (idx := 126) hG k_L_pay (by decide +kernel) cl_L_pay wd_1099 wd_1100 (by decide)) (
  e_more (e_Sg.of (s_istore (by decide +kernel) (by decide)) hG) (
  e_more (e_Sg.of (s_aload_n (k := 2) (by decide +kernel) rfl) hG) (
  e_more (e_Sg.of (s_aload_n (k := 0) (by decide +kernel) rfl) hG) (
  e_more (e_Sg.of (s_iload (by decide +kernel)) hG) (
  e_more (e_Sg.of (s_iconst (n := 1) (v := 1) (by decide +kernel) (by decide)) hG) (
  e_more (e_Sg.of (s_iadd (by decide +kernel)) hG) (
  e_more (s_xald (pc := 565) (by decide +kernel)) (
  e_more (e_Sg.of (s_aload_n (k := 0) (by decide +kernel) rfl) hG) (
  e_more (e_Sg.of (s_iload (by decide +kernel)) hG) (
  e_more (e_Sg.of (s_iconst (n := 2) (v := 2) (by decide +kernel) (by decide)) hG) (
  e_more (e_Sg.of (s_iadd (by decide +kernel)) hG) (
  e_more (s_xald (pc := 571) (by decide +kernel)) (
  e_more (e_Sg.of (e_call0 (s_callV (c := 5) (idx := 128) k_X5_pay (by decide +kernel) cl_X5_pay (by decide) rfl wd_1500 wd_1501 wd_1502 (by decide) (e_sf_rec rfl))) hG) (
  e_more (e_Sg.of (s_istore (by decide +kernel) (by decide)) hG) (
  e_more (e_Sg.of (s_aload_n (k := 2) (by decide +kernel) rfl) hG) (
  e_more (e_Sg.of (e_call0 (s_callV (c := 5) (idx := 107) k_X5_thrown (by decide +kernel) cl_X5_thrown (by decide) rfl wd_1398 wd_1399 wd_1400 (by decide) (e_sf_rec rfl))) hG) (
  e_more (e_Sg.of (s_iload (by decide +kernel)) hG) (
  e_more (e_Sg.of (s_ic_eq (off := 5) (by decide +kernel) (by decide)) hG) (
  e_more (e_Sg.of (s_iconst (n := 0) (v := 0) (by decide +kernel) (by decide)) hG) (
  e_more (e_Sg.of (s_zret (by decide +kernel) rfl) hG) (
  e_more (e_Sg.of (s_iload (by decide +kernel)) hG) (
  e_more (e_Sg.of (s_if_ne (off := 15) (by decide +kernel) (by decide)) hG) (
  e_more (e_Sg.of (s_aload_n (k := 3) (by decide +kernel) rfl) hG) (
  e_more (e_Sg.of (s_iconst (n := 0) (v := 0) (by decide +kernel) (by decide)) hG) (
  e_more (e_Sg.of (s_lald (by decide +kernel)) hG) (
  e_more (e_Sg.of (s_iload (by decide +kernel)) hG) (
  e_more (e_Sg.of (s_i2l (by decide +kernel)) hG) (
  e_more (e_Sg.of (s_lcmp (by decide +kernel)) hG) (
  e_more (e_Sg.of (s_if_eq (off := 5) (by decide +kernel) (by decide)) hG) (
  e_more (e_Sg.of (s_iconst (n := 0) (v := 0) (by decide +kernel) (by decide)) hG) (
  e_more (e_Sg.of (s_zret (by decide +kernel) rfl) hG) (
  e_more (e_Sg.of (s_goto (off := 1258) (by decide +kernel) (by decide)) hG) (
  e_no_more)))))))))))))))))))))))))))))))))))))))))))))
def tb_L7 (L : Nat) (xs : Nat → Int32) : eTb := [(608, t_ldO 1 1 608), (609, t_ldO 0 1 609), (610, t_ldI 4 2 610), (612, t_push (.inl 1) 1 612), (613, t_ii (fun a b => a + b) 613), (614, t_xald L xs 614), (615, t_ldO 0 1 615), (616, t_ldI 4 2 616), (618, t_push (.inl 2) 1 618), (619, t_ii (fun a b => a + b) 619), (620, t_xald L xs 620), (621, t_ldO 3 1 621), (622, t_call 4 1 6 w_L_set 622), (625, t_stI 5 2 625), (627, t_ldO 2 1 627), (628, t_ldO 0 1 628), (629, t_ldI 4 2 629), (631, t_push (.inl 1) 1 631), (632, t_ii (fun a b => a + b) 632), (633, t_xald L xs 633), (634, t_ldO 0 1 634), (635, t_ldI 4 2 635), (637, t_push (.inl 2) 1 637), (638, t_ii (fun a b => a + b) 638), (639, t_xald L xs 639), (640, t_call0 3 w_X5_set 640), (643, t_stI 6 2 643), (645, t_ldO 2 1 645), (646, t_call0 1 w_X5_thrown 646), (649, t_ldI 5 2 649), (651, t_ic (fun a b => a = b) 656 651), (654, t_push (.inl 0) 1 654), (655, t_zret), (656, t_ldI 5 2 656), (658, t_ifn (fun a => a = 0) 673 658), (661, t_ldO 3 1 661), (662, t_push (.inl 0) 1 662), (663, t_lald 663), (664, t_ldI 6 2 664), (666, t_i1 (fun a => .inr (.inl a.toInt64)) 666), (667, t_ll (fun a b => .inl (lg_cmp a b)) 667), (668, t_if (fun a => a = 0) 673 668), (671, t_push (.inl 0) 1 671), (672, t_zret), (673, t_goto 1863)]
theorem st_L7 {G : eG} (hG : gr G = e_rf) : ∀ x ∈ tb_L7 (gn G) (gx G), e_Sg G RL i_L_law x.1 x.2 :=
  e_more (e_Sg.of (s_aload_n (k := 1) (by decide +kernel) rfl) hG) (
  e_more (e_Sg.of (s_aload_n (k := 0) (by decide +kernel) rfl) hG) (
  e_more (e_Sg.of (s_iload (by decide +kernel)) hG) (
  e_more (e_Sg.of (s_iconst (n := 1) (v := 1) (by decide +kernel) (by decide)) hG) (
  e_more (e_Sg.of (s_iadd (by decide +kernel)) hG) (
  e_more (s_xald (pc := 614) (by decide +kernel)) (
  e_more (e_Sg.of (s_aload_n (k := 0) (by decide +kernel) rfl) hG) (
  e_more (e_Sg.of (s_iload (by decide +kernel)) hG) (
  e_more (e_Sg.of (s_iconst (n := 2) (v := 2) (by decide +kernel) (by decide)) hG) (
  e_more (e_Sg.of (s_iadd (by decide +kernel)) hG) (
  e_more (s_xald (pc := 620) (by decide +kernel)) (
  e_more (e_Sg.of (s_aload_n (k := 3) (by decide +kernel) rfl) hG) (
  e_more (s_callSH (idx := 129) hG k_L_set (by decide +kernel) cl_L_set wd_1113 wd_1114 (by decide)) (
  e_more (e_Sg.of (s_istore (by decide +kernel) (by decide)) hG) (
  e_more (e_Sg.of (s_aload_n (k := 2) (by decide +kernel) rfl) hG) (
  e_more (e_Sg.of (s_aload_n (k := 0) (by decide +kernel) rfl) hG) (
  e_more (e_Sg.of (s_iload (by decide +kernel)) hG) (
  e_more (e_Sg.of (s_iconst (n := 1) (v := 1) (by decide +kernel) (by decide)) hG) (
  e_more (e_Sg.of (s_iadd (by decide +kernel)) hG) (
  e_more (s_xald (pc := 633) (by decide +kernel)) (
  e_more (e_Sg.of (s_aload_n (k := 0) (by decide +kernel) rfl) hG) (
  e_more (e_Sg.of (s_iload (by decide +kernel)) hG) (
  e_more (e_Sg.of (s_iconst (n := 2) (v := 2) (by decide +kernel) (by decide)) hG) (
  e_more (e_Sg.of (s_iadd (by decide +kernel)) hG) (
  e_more (s_xald (pc := 639) (by decide +kernel)) (
  e_more (e_Sg.of (e_call0 (s_callV (c := 5) (idx := 131) k_X5_set (by decide +kernel) cl_X5_set (by decide) rfl wd_1504 wd_1505 wd_1506 (by decide) (e_sf_rec rfl))) hG) (
  e_more (e_Sg.of (s_istore (by decide +kernel) (by decide)) hG) (
  e_more (e_Sg.of (s_aload_n (k := 2) (by decide +kernel) rfl) hG) (
  e_more (e_Sg.of (e_call0 (s_callV (c := 5) (idx := 107) k_X5_thrown (by decide +kernel) cl_X5_thrown (by decide) rfl wd_1398 wd_1399 wd_1400 (by decide) (e_sf_rec rfl))) hG) (
  e_more (e_Sg.of (s_iload (by decide +kernel)) hG) (
  e_more (e_Sg.of (s_ic_eq (off := 5) (by decide +kernel) (by decide)) hG) (
  e_more (e_Sg.of (s_iconst (n := 0) (v := 0) (by decide +kernel) (by decide)) hG) (
  e_more (e_Sg.of (s_zret (by decide +kernel) rfl) hG) (
  e_more (e_Sg.of (s_iload (by decide +kernel)) hG) (
  e_more (e_Sg.of (s_if_ne (off := 15) (by decide +kernel) (by decide)) hG) (
  e_more (e_Sg.of (s_aload_n (k := 3) (by decide +kernel) rfl) hG) (
  e_more (e_Sg.of (s_iconst (n := 0) (v := 0) (by decide +kernel) (by decide)) hG) (
  e_more (e_Sg.of (s_lald (by decide +kernel)) hG) (
  e_more (e_Sg.of (s_iload (by decide +kernel)) hG) (
  e_more (e_Sg.of (s_i2l (by decide +kernel)) hG) (
  e_more (e_Sg.of (s_lcmp (by decide +kernel)) hG) (
  e_more (e_Sg.of (s_if_eq (off := 5) (by decide +kernel) (by decide)) hG) (
  e_more (e_Sg.of (s_iconst (n := 0) (v := 0) (by decide +kernel) (by decide)) hG) (
  e_more (e_Sg.of (s_zret (by decide +kernel) rfl) hG) (
  e_more (e_Sg.of (s_goto (off := 1190) (by decide +kernel) (by decide)) hG) (
  e_no_more)))))))))))))))))))))))))))))))))))))))))))))
def tb_L8 (L : Nat) (xs : Nat → Int32) : eTb := [(676, t_ldO 1 1 676), (677, t_ldO 0 1 677), (678, t_ldI 4 2 678), (680, t_push (.inl 1) 1 680), (681, t_ii (fun a b => a + b) 681), (682, t_xald L xs 682), (683, t_ldO 3 1 683), (684, t_call 3 1 6 w_L_pass 684), (687, t_stI 5 2 687), (689, t_ldO 2 1 689), (690, t_ldO 0 1 690), (691, t_ldI 4 2 691), (693, t_push (.inl 1) 1 693), (694, t_ii (fun a b => a + b) 694), (695, t_xald L xs 695), (696, t_call0 2 w_X5_pass 696), (699, t_stI 6 2 699), (701, t_ldO 2 1 701), (702, t_call0 1 w_X5_thrown 702), (705, t_ldI 5 2 705), (707, t_ic (fun a b => a = b) 712 707), (710, t_push (.inl 0) 1 710), (711, t_zret), (712, t_ldI 5 2 712), (714, t_ifn (fun a => a = 0) 729 714), (717, t_ldO 3 1 717), (718, t_push (.inl 0) 1 718), (719, t_lald 719), (720, t_ldI 6 2 720), (722, t_i1 (fun a => .inr (.inl a.toInt64)) 722), (723, t_ll (fun a b => .inl (lg_cmp a b)) 723), (724, t_if (fun a => a = 0) 729 724), (727, t_push (.inl 0) 1 727), (728, t_zret), (729, t_goto 1863)]
theorem st_L8 {G : eG} (hG : gr G = e_rf) : ∀ x ∈ tb_L8 (gn G) (gx G), e_Sg G RL i_L_law x.1 x.2 :=
  e_more (e_Sg.of (s_aload_n (k := 1) (by decide +kernel) rfl) hG) (
  e_more (e_Sg.of (s_aload_n (k := 0) (by decide +kernel) rfl) hG) (
  e_more (e_Sg.of (s_iload (by decide +kernel)) hG) (
  e_more (e_Sg.of (s_iconst (n := 1) (v := 1) (by decide +kernel) (by decide)) hG) (
  e_more (e_Sg.of (s_iadd (by decide +kernel)) hG) (
  e_more (s_xald (pc := 682) (by decide +kernel)) (
  e_more (e_Sg.of (s_aload_n (k := 3) (by decide +kernel) rfl) hG) (
  e_more (s_callSH (idx := 132) hG k_L_pass (by decide +kernel) cl_L_pass wd_1131 wd_1132 (by decide)) (
  e_more (e_Sg.of (s_istore (by decide +kernel) (by decide)) hG) (
  e_more (e_Sg.of (s_aload_n (k := 2) (by decide +kernel) rfl) hG) (
  e_more (e_Sg.of (s_aload_n (k := 0) (by decide +kernel) rfl) hG) (
  e_more (e_Sg.of (s_iload (by decide +kernel)) hG) (
  e_more (e_Sg.of (s_iconst (n := 1) (v := 1) (by decide +kernel) (by decide)) hG) (
  e_more (e_Sg.of (s_iadd (by decide +kernel)) hG) (
  e_more (s_xald (pc := 695) (by decide +kernel)) (
  e_more (e_Sg.of (e_call0 (s_callV (c := 5) (idx := 134) k_X5_pass (by decide +kernel) cl_X5_pass (by decide) rfl wd_1508 wd_1509 wd_1510 (by decide) (e_sf_rec rfl))) hG) (
  e_more (e_Sg.of (s_istore (by decide +kernel) (by decide)) hG) (
  e_more (e_Sg.of (s_aload_n (k := 2) (by decide +kernel) rfl) hG) (
  e_more (e_Sg.of (e_call0 (s_callV (c := 5) (idx := 107) k_X5_thrown (by decide +kernel) cl_X5_thrown (by decide) rfl wd_1398 wd_1399 wd_1400 (by decide) (e_sf_rec rfl))) hG) (
  e_more (e_Sg.of (s_iload (by decide +kernel)) hG) (
  e_more (e_Sg.of (s_ic_eq (off := 5) (by decide +kernel) (by decide)) hG) (
  e_more (e_Sg.of (s_iconst (n := 0) (v := 0) (by decide +kernel) (by decide)) hG) (
  e_more (e_Sg.of (s_zret (by decide +kernel) rfl) hG) (
  e_more (e_Sg.of (s_iload (by decide +kernel)) hG) (
  e_more (e_Sg.of (s_if_ne (off := 15) (by decide +kernel) (by decide)) hG) (
  e_more (e_Sg.of (s_aload_n (k := 3) (by decide +kernel) rfl) hG) (
  e_more (e_Sg.of (s_iconst (n := 0) (v := 0) (by decide +kernel) (by decide)) hG) (
  e_more (e_Sg.of (s_lald (by decide +kernel)) hG) (
  e_more (e_Sg.of (s_iload (by decide +kernel)) hG) (
  e_more (e_Sg.of (s_i2l (by decide +kernel)) hG) (
  e_more (e_Sg.of (s_lcmp (by decide +kernel)) hG) (
  e_more (e_Sg.of (s_if_eq (off := 5) (by decide +kernel) (by decide)) hG) (
  e_more (e_Sg.of (s_iconst (n := 0) (v := 0) (by decide +kernel) (by decide)) hG) (
  e_more (e_Sg.of (s_zret (by decide +kernel) rfl) hG) (
  e_more (e_Sg.of (s_goto (off := 1134) (by decide +kernel) (by decide)) hG) (
  e_no_more)))))))))))))))))))))))))))))))))))
def tb_L9 (L : Nat) (xs : Nat → Int32) : eTb := [(732, t_ldO 1 1 732), (733, t_ldO 0 1 733), (734, t_ldI 4 2 734), (736, t_push (.inl 1) 1 736), (737, t_ii (fun a b => a + b) 737), (738, t_xald L xs 738), (739, t_ldO 0 1 739), (740, t_ldI 4 2 740), (742, t_push (.inl 2) 1 742), (743, t_ii (fun a b => a + b) 743), (744, t_xald L xs 744), (745, t_ldO 3 1 745), (746, t_call 4 1 6 w_L_teach 746), (749, t_stI 5 2 749), (751, t_ldO 2 1 751), (752, t_ldO 0 1 752), (753, t_ldI 4 2 753), (755, t_push (.inl 1) 1 755), (756, t_ii (fun a b => a + b) 756), (757, t_xald L xs 757), (758, t_ldO 0 1 758), (759, t_ldI 4 2 759), (761, t_push (.inl 2) 1 761), (762, t_ii (fun a b => a + b) 762), (763, t_xald L xs 763), (764, t_call0 3 w_X5_teach 764), (767, t_stI 6 2 767), (769, t_ldO 2 1 769), (770, t_call0 1 w_X5_thrown 770), (773, t_ldI 5 2 773), (775, t_ic (fun a b => a = b) 780 775), (778, t_push (.inl 0) 1 778), (779, t_zret), (780, t_ldI 5 2 780), (782, t_ifn (fun a => a = 0) 797 782), (785, t_ldO 3 1 785), (786, t_push (.inl 0) 1 786), (787, t_lald 787), (788, t_ldI 6 2 788), (790, t_i1 (fun a => .inr (.inl a.toInt64)) 790), (791, t_ll (fun a b => .inl (lg_cmp a b)) 791), (792, t_if (fun a => a = 0) 797 792), (795, t_push (.inl 0) 1 795), (796, t_zret), (797, t_goto 1863)]
theorem st_L9 {G : eG} (hG : gr G = e_rf) : ∀ x ∈ tb_L9 (gn G) (gx G), e_Sg G RL i_L_law x.1 x.2 :=
  e_more (e_Sg.of (s_aload_n (k := 1) (by decide +kernel) rfl) hG) (
  e_more (e_Sg.of (s_aload_n (k := 0) (by decide +kernel) rfl) hG) (
  e_more (e_Sg.of (s_iload (by decide +kernel)) hG) (
  e_more (e_Sg.of (s_iconst (n := 1) (v := 1) (by decide +kernel) (by decide)) hG) (
  e_more (e_Sg.of (s_iadd (by decide +kernel)) hG) (
  e_more (s_xald (pc := 738) (by decide +kernel)) (
  e_more (e_Sg.of (s_aload_n (k := 0) (by decide +kernel) rfl) hG) (
  e_more (e_Sg.of (s_iload (by decide +kernel)) hG) (
  e_more (e_Sg.of (s_iconst (n := 2) (v := 2) (by decide +kernel) (by decide)) hG) (
  e_more (e_Sg.of (s_iadd (by decide +kernel)) hG) (
  e_more (s_xald (pc := 744) (by decide +kernel)) (
  e_more (e_Sg.of (s_aload_n (k := 3) (by decide +kernel) rfl) hG) (
  e_more (s_callSH (idx := 135) hG k_L_teach (by decide +kernel) cl_L_teach wd_1143 wd_1144 (by decide)) (
  e_more (e_Sg.of (s_istore (by decide +kernel) (by decide)) hG) (
  e_more (e_Sg.of (s_aload_n (k := 2) (by decide +kernel) rfl) hG) (
  e_more (e_Sg.of (s_aload_n (k := 0) (by decide +kernel) rfl) hG) (
  e_more (e_Sg.of (s_iload (by decide +kernel)) hG) (
  e_more (e_Sg.of (s_iconst (n := 1) (v := 1) (by decide +kernel) (by decide)) hG) (
  e_more (e_Sg.of (s_iadd (by decide +kernel)) hG) (
  e_more (s_xald (pc := 757) (by decide +kernel)) (
  e_more (e_Sg.of (s_aload_n (k := 0) (by decide +kernel) rfl) hG) (
  e_more (e_Sg.of (s_iload (by decide +kernel)) hG) (
  e_more (e_Sg.of (s_iconst (n := 2) (v := 2) (by decide +kernel) (by decide)) hG) (
  e_more (e_Sg.of (s_iadd (by decide +kernel)) hG) (
  e_more (s_xald (pc := 763) (by decide +kernel)) (
  e_more (e_Sg.of (e_call0 (s_callV (c := 5) (idx := 137) k_X5_teach (by decide +kernel) cl_X5_teach (by decide) rfl wd_1516 wd_1517 wd_1518 (by decide) (e_sf_rec rfl))) hG) (
  e_more (e_Sg.of (s_istore (by decide +kernel) (by decide)) hG) (
  e_more (e_Sg.of (s_aload_n (k := 2) (by decide +kernel) rfl) hG) (
  e_more (e_Sg.of (e_call0 (s_callV (c := 5) (idx := 107) k_X5_thrown (by decide +kernel) cl_X5_thrown (by decide) rfl wd_1398 wd_1399 wd_1400 (by decide) (e_sf_rec rfl))) hG) (
  e_more (e_Sg.of (s_iload (by decide +kernel)) hG) (
  e_more (e_Sg.of (s_ic_eq (off := 5) (by decide +kernel) (by decide)) hG) (
  e_more (e_Sg.of (s_iconst (n := 0) (v := 0) (by decide +kernel) (by decide)) hG) (
  e_more (e_Sg.of (s_zret (by decide +kernel) rfl) hG) (
  e_more (e_Sg.of (s_iload (by decide +kernel)) hG) (
  e_more (e_Sg.of (s_if_ne (off := 15) (by decide +kernel) (by decide)) hG) (
  e_more (e_Sg.of (s_aload_n (k := 3) (by decide +kernel) rfl) hG) (
  e_more (e_Sg.of (s_iconst (n := 0) (v := 0) (by decide +kernel) (by decide)) hG) (
  e_more (e_Sg.of (s_lald (by decide +kernel)) hG) (
  e_more (e_Sg.of (s_iload (by decide +kernel)) hG) (
  e_more (e_Sg.of (s_i2l (by decide +kernel)) hG) (
  e_more (e_Sg.of (s_lcmp (by decide +kernel)) hG) (
  e_more (e_Sg.of (s_if_eq (off := 5) (by decide +kernel) (by decide)) hG) (
  e_more (e_Sg.of (s_iconst (n := 0) (v := 0) (by decide +kernel) (by decide)) hG) (
  e_more (e_Sg.of (s_zret (by decide +kernel) rfl) hG) (
  e_more (e_Sg.of (s_goto (off := 1066) (by decide +kernel) (by decide)) hG) (
  e_no_more)))))))))))))))))))))))))))))))))))))))))))))
def tb_L10 (L : Nat) (xs : Nat → Int32) : eTb := [(800, t_ldO 1 1 800), (801, t_ldO 0 1 801), (802, t_ldI 4 2 802), (804, t_push (.inl 1) 1 804), (805, t_ii (fun a b => a + b) 805), (806, t_xald L xs 806), (807, t_ldO 3 1 807), (808, t_call 3 1 6 w_L_march 808), (811, t_stI 5 2 811), (813, t_ldO 2 1 813), (814, t_ldO 0 1 814), (815, t_ldI 4 2 815), (817, t_push (.inl 1) 1 817), (818, t_ii (fun a b => a + b) 818), (819, t_xald L xs 819), (820, t_call0 2 w_X5_march 820), (823, t_stI 6 2 823), (825, t_ldO 2 1 825), (826, t_call0 1 w_X5_thrown 826), (829, t_ldI 5 2 829), (831, t_ic (fun a b => a = b) 836 831), (834, t_push (.inl 0) 1 834), (835, t_zret), (836, t_ldI 5 2 836), (838, t_ifn (fun a => a = 0) 853 838), (841, t_ldO 3 1 841), (842, t_push (.inl 0) 1 842), (843, t_lald 843), (844, t_ldI 6 2 844), (846, t_i1 (fun a => .inr (.inl a.toInt64)) 846), (847, t_ll (fun a b => .inl (lg_cmp a b)) 847), (848, t_if (fun a => a = 0) 853 848), (851, t_push (.inl 0) 1 851), (852, t_zret), (853, t_goto 1863)]
theorem st_L10 {G : eG} (hG : gr G = e_rf) : ∀ x ∈ tb_L10 (gn G) (gx G), e_Sg G RL i_L_law x.1 x.2 :=
  e_more (e_Sg.of (s_aload_n (k := 1) (by decide +kernel) rfl) hG) (
  e_more (e_Sg.of (s_aload_n (k := 0) (by decide +kernel) rfl) hG) (
  e_more (e_Sg.of (s_iload (by decide +kernel)) hG) (
  e_more (e_Sg.of (s_iconst (n := 1) (v := 1) (by decide +kernel) (by decide)) hG) (
  e_more (e_Sg.of (s_iadd (by decide +kernel)) hG) (
  e_more (s_xald (pc := 806) (by decide +kernel)) (
  e_more (e_Sg.of (s_aload_n (k := 3) (by decide +kernel) rfl) hG) (
  e_more (s_callSH (idx := 138) hG k_L_march (by decide +kernel) cl_L_march wd_1165 wd_1166 (by decide)) (
  e_more (e_Sg.of (s_istore (by decide +kernel) (by decide)) hG) (
  e_more (e_Sg.of (s_aload_n (k := 2) (by decide +kernel) rfl) hG) (
  e_more (e_Sg.of (s_aload_n (k := 0) (by decide +kernel) rfl) hG) (
  e_more (e_Sg.of (s_iload (by decide +kernel)) hG) (
  e_more (e_Sg.of (s_iconst (n := 1) (v := 1) (by decide +kernel) (by decide)) hG) (
  e_more (e_Sg.of (s_iadd (by decide +kernel)) hG) (
  e_more (s_xald (pc := 819) (by decide +kernel)) (
  e_more (e_Sg.of (e_call0 (s_callV (c := 5) (idx := 140) k_X5_march (by decide +kernel) cl_X5_march (by decide) rfl wd_1549 wd_1550 wd_1551 (by decide) (e_sf_rec rfl))) hG) (
  e_more (e_Sg.of (s_istore (by decide +kernel) (by decide)) hG) (
  e_more (e_Sg.of (s_aload_n (k := 2) (by decide +kernel) rfl) hG) (
  e_more (e_Sg.of (e_call0 (s_callV (c := 5) (idx := 107) k_X5_thrown (by decide +kernel) cl_X5_thrown (by decide) rfl wd_1398 wd_1399 wd_1400 (by decide) (e_sf_rec rfl))) hG) (
  e_more (e_Sg.of (s_iload (by decide +kernel)) hG) (
  e_more (e_Sg.of (s_ic_eq (off := 5) (by decide +kernel) (by decide)) hG) (
  e_more (e_Sg.of (s_iconst (n := 0) (v := 0) (by decide +kernel) (by decide)) hG) (
  e_more (e_Sg.of (s_zret (by decide +kernel) rfl) hG) (
  e_more (e_Sg.of (s_iload (by decide +kernel)) hG) (
  e_more (e_Sg.of (s_if_ne (off := 15) (by decide +kernel) (by decide)) hG) (
  e_more (e_Sg.of (s_aload_n (k := 3) (by decide +kernel) rfl) hG) (
  e_more (e_Sg.of (s_iconst (n := 0) (v := 0) (by decide +kernel) (by decide)) hG) (
  e_more (e_Sg.of (s_lald (by decide +kernel)) hG) (
  e_more (e_Sg.of (s_iload (by decide +kernel)) hG) (
  e_more (e_Sg.of (s_i2l (by decide +kernel)) hG) (
  e_more (e_Sg.of (s_lcmp (by decide +kernel)) hG) (
  e_more (e_Sg.of (s_if_eq (off := 5) (by decide +kernel) (by decide)) hG) (
  e_more (e_Sg.of (s_iconst (n := 0) (v := 0) (by decide +kernel) (by decide)) hG) (
  e_more (e_Sg.of (s_zret (by decide +kernel) rfl) hG) (
  e_more (e_Sg.of (s_goto (off := 1010) (by decide +kernel) (by decide)) hG) (
  e_no_more)))))))))))))))))))))))))))))))))))
def tb_L11 (L : Nat) (xs : Nat → Int32) : eTb := [(856, t_ldO 1 1 856), (857, t_ldO 0 1 857), (858, t_ldI 4 2 858), (860, t_push (.inl 1) 1 860), (861, t_ii (fun a b => a + b) 861), (862, t_xald L xs 862), (863, t_ldO 3 1 863), (864, t_call 3 2 76 w_L_append 864), (867, t_stI 5 2 867), (869, t_ldO 2 1 869), (870, t_ldO 0 1 870), (871, t_ldI 4 2 871), (873, t_push (.inl 1) 1 873), (874, t_ii (fun a b => a + b) 874), (875, t_xald L xs 875), (876, t_call0 2 w_X5_append 876), (879, t_stI 6 2 879), (881, t_ldO 2 1 881), (882, t_call0 1 w_X5_thrown 882), (885, t_ldI 5 2 885), (887, t_ic (fun a b => a = b) 892 887), (890, t_push (.inl 0) 1 890), (891, t_zret), (892, t_ldI 5 2 892), (894, t_ifn (fun a => a = 0) 909 894), (897, t_ldO 3 1 897), (898, t_push (.inl 0) 1 898), (899, t_lald 899), (900, t_ldI 6 2 900), (902, t_i1 (fun a => .inr (.inl a.toInt64)) 902), (903, t_ll (fun a b => .inl (lg_cmp a b)) 903), (904, t_if (fun a => a = 0) 909 904), (907, t_push (.inl 0) 1 907), (908, t_zret), (909, t_goto 1863)]
theorem st_L11 {G : eG} (hG : gr G = e_rf) : ∀ x ∈ tb_L11 (gn G) (gx G), e_Sg G RL i_L_law x.1 x.2 :=
  e_more (e_Sg.of (s_aload_n (k := 1) (by decide +kernel) rfl) hG) (
  e_more (e_Sg.of (s_aload_n (k := 0) (by decide +kernel) rfl) hG) (
  e_more (e_Sg.of (s_iload (by decide +kernel)) hG) (
  e_more (e_Sg.of (s_iconst (n := 1) (v := 1) (by decide +kernel) (by decide)) hG) (
  e_more (e_Sg.of (s_iadd (by decide +kernel)) hG) (
  e_more (s_xald (pc := 862) (by decide +kernel)) (
  e_more (e_Sg.of (s_aload_n (k := 3) (by decide +kernel) rfl) hG) (
  e_more (s_callSH (idx := 141) hG k_L_append (by decide +kernel) cl_L_append wd_1198 wd_1199 (by decide)) (
  e_more (e_Sg.of (s_istore (by decide +kernel) (by decide)) hG) (
  e_more (e_Sg.of (s_aload_n (k := 2) (by decide +kernel) rfl) hG) (
  e_more (e_Sg.of (s_aload_n (k := 0) (by decide +kernel) rfl) hG) (
  e_more (e_Sg.of (s_iload (by decide +kernel)) hG) (
  e_more (e_Sg.of (s_iconst (n := 1) (v := 1) (by decide +kernel) (by decide)) hG) (
  e_more (e_Sg.of (s_iadd (by decide +kernel)) hG) (
  e_more (s_xald (pc := 875) (by decide +kernel)) (
  e_more (e_Sg.of (e_call0 (s_callV (c := 5) (idx := 143) k_X5_append (by decide +kernel) cl_X5_append (by decide) rfl wd_1589 wd_1590 wd_1591 (by decide) (e_sf_rec rfl))) hG) (
  e_more (e_Sg.of (s_istore (by decide +kernel) (by decide)) hG) (
  e_more (e_Sg.of (s_aload_n (k := 2) (by decide +kernel) rfl) hG) (
  e_more (e_Sg.of (e_call0 (s_callV (c := 5) (idx := 107) k_X5_thrown (by decide +kernel) cl_X5_thrown (by decide) rfl wd_1398 wd_1399 wd_1400 (by decide) (e_sf_rec rfl))) hG) (
  e_more (e_Sg.of (s_iload (by decide +kernel)) hG) (
  e_more (e_Sg.of (s_ic_eq (off := 5) (by decide +kernel) (by decide)) hG) (
  e_more (e_Sg.of (s_iconst (n := 0) (v := 0) (by decide +kernel) (by decide)) hG) (
  e_more (e_Sg.of (s_zret (by decide +kernel) rfl) hG) (
  e_more (e_Sg.of (s_iload (by decide +kernel)) hG) (
  e_more (e_Sg.of (s_if_ne (off := 15) (by decide +kernel) (by decide)) hG) (
  e_more (e_Sg.of (s_aload_n (k := 3) (by decide +kernel) rfl) hG) (
  e_more (e_Sg.of (s_iconst (n := 0) (v := 0) (by decide +kernel) (by decide)) hG) (
  e_more (e_Sg.of (s_lald (by decide +kernel)) hG) (
  e_more (e_Sg.of (s_iload (by decide +kernel)) hG) (
  e_more (e_Sg.of (s_i2l (by decide +kernel)) hG) (
  e_more (e_Sg.of (s_lcmp (by decide +kernel)) hG) (
  e_more (e_Sg.of (s_if_eq (off := 5) (by decide +kernel) (by decide)) hG) (
  e_more (e_Sg.of (s_iconst (n := 0) (v := 0) (by decide +kernel) (by decide)) hG) (
  e_more (e_Sg.of (s_zret (by decide +kernel) rfl) hG) (
  e_more (e_Sg.of (s_goto (off := 954) (by decide +kernel) (by decide)) hG) (
  e_no_more)))))))))))))))))))))))))))))))))))
def tb_L12 (L : Nat) (xs : Nat → Int32) : eTb := [(912, t_ldO 1 1 912), (913, t_call 1 1 70 w_X4_clearBuffer 913), (916, t_ldO 2 1 916), (917, t_call0 1 w_X5_clearBuffer 917), (920, t_ic (fun a b => a = b) 1863 920), (923, t_push (.inl 0) 1 923), (924, t_zret)]
theorem st_L12 {G : eG} (hG : gr G = e_rf) : ∀ x ∈ tb_L12 (gn G) (gx G), e_Sg G RL i_L_law x.1 x.2 :=
  e_more (e_Sg.of (s_aload_n (k := 1) (by decide +kernel) rfl) hG) (
  e_more (e_Sg.of (s_callV (c := 4) (idx := 144) k_X4_clearBuffer (by decide +kernel) cl_X4_clearBuffer (by decide) rfl wd_310 wd_311 wd_312 (by decide) (e_sf_rec rfl)) hG) (
  e_more (e_Sg.of (s_aload_n (k := 2) (by decide +kernel) rfl) hG) (
  e_more (e_Sg.of (e_call0 (s_callV (c := 5) (idx := 147) k_X5_clearBuffer (by decide +kernel) cl_X5_clearBuffer (by decide) rfl wd_1593 wd_1594 wd_1595 (by decide) (e_sf_rec rfl))) hG) (
  e_more (e_Sg.of (s_ic_eq (off := 943) (by decide +kernel) (by decide)) hG) (
  e_more (e_Sg.of (s_iconst (n := 0) (v := 0) (by decide +kernel) (by decide)) hG) (
  e_more (e_Sg.of (s_zret (by decide +kernel) rfl) hG) (
  e_no_more)))))))
def tb_L13 (L : Nat) (xs : Nat → Int32) : eTb := [(925, t_ldO 1 1 925), (926, t_call0 1 w_X4_firstError 926), (929, t_ldO 2 1 929), (930, t_call0 1 w_X5_firstError 930), (933, t_ic (fun a b => a = b) 1863 933), (936, t_push (.inl 0) 1 936), (937, t_zret)]
theorem st_L13 {G : eG} (hG : gr G = e_rf) : ∀ x ∈ tb_L13 (gn G) (gx G), e_Sg G RL i_L_law x.1 x.2 :=
  e_more (e_Sg.of (s_aload_n (k := 1) (by decide +kernel) rfl) hG) (
  e_more (e_Sg.of (e_call0 (s_callV (c := 4) (idx := 148) k_X4_firstError (by decide +kernel) cl_X4_firstError (by decide) rfl wd_666 wd_667 wd_668 (by decide) (e_sf_rec rfl))) hG) (
  e_more (e_Sg.of (s_aload_n (k := 2) (by decide +kernel) rfl) hG) (
  e_more (e_Sg.of (e_call0 (s_callV (c := 5) (idx := 151) k_X5_firstError (by decide +kernel) cl_X5_firstError (by decide) rfl wd_1597 wd_1598 wd_1599 (by decide) (e_sf_rec rfl))) hG) (
  e_more (e_Sg.of (s_ic_eq (off := 930) (by decide +kernel) (by decide)) hG) (
  e_more (e_Sg.of (s_iconst (n := 0) (v := 0) (by decide +kernel) (by decide)) hG) (
  e_more (e_Sg.of (s_zret (by decide +kernel) rfl) hG) (
  e_no_more)))))))
def tb_L14 (L : Nat) (xs : Nat → Int32) : eTb := [(938, t_ldO 1 1 938), (939, t_ldO 3 1 939), (940, t_call 2 2 76 w_L_work 940), (943, t_stI 5 2 943), (945, t_ldO 2 1 945), (946, t_call0 1 w_X5_work 946), (949, t_stI 6 2 949), (951, t_ldO 2 1 951), (952, t_call0 1 w_X5_thrown 952), (955, t_ldI 5 2 955), (957, t_ic (fun a b => a = b) 962 957), (960, t_push (.inl 0) 1 960), (961, t_zret), (962, t_ldI 5 2 962), (964, t_ifn (fun a => a = 0) 979 964), (967, t_ldO 3 1 967), (968, t_push (.inl 0) 1 968), (969, t_lald 969), (970, t_ldI 6 2 970), (972, t_i1 (fun a => .inr (.inl a.toInt64)) 972), (973, t_ll (fun a b => .inl (lg_cmp a b)) 973), (974, t_if (fun a => a = 0) 979 974), (977, t_push (.inl 0) 1 977), (978, t_zret), (979, t_goto 1863)]
theorem st_L14 {G : eG} (hG : gr G = e_rf) : ∀ x ∈ tb_L14 (gn G) (gx G), e_Sg G RL i_L_law x.1 x.2 :=
  e_more (e_Sg.of (s_aload_n (k := 1) (by decide +kernel) rfl) hG) (
  e_more (e_Sg.of (s_aload_n (k := 3) (by decide +kernel) rfl) hG) (
  e_more (s_callSH (idx := 152) hG k_L_work (by decide +kernel) cl_L_work wd_1212 wd_1213 (by decide)) (
  e_more (e_Sg.of (s_istore (by decide +kernel) (by decide)) hG) (
  e_more (e_Sg.of (s_aload_n (k := 2) (by decide +kernel) rfl) hG) (
  e_more (e_Sg.of (e_call0 (s_callV (c := 5) (idx := 155) k_X5_work (by decide +kernel) cl_X5_work (by decide) rfl wd_1637 wd_1638 wd_1639 (by decide) (e_sf_rec rfl))) hG) (
  e_more (e_Sg.of (s_istore (by decide +kernel) (by decide)) hG) (
  e_more (e_Sg.of (s_aload_n (k := 2) (by decide +kernel) rfl) hG) (
  e_more (e_Sg.of (e_call0 (s_callV (c := 5) (idx := 107) k_X5_thrown (by decide +kernel) cl_X5_thrown (by decide) rfl wd_1398 wd_1399 wd_1400 (by decide) (e_sf_rec rfl))) hG) (
  e_more (e_Sg.of (s_iload (by decide +kernel)) hG) (
  e_more (e_Sg.of (s_ic_eq (off := 5) (by decide +kernel) (by decide)) hG) (
  e_more (e_Sg.of (s_iconst (n := 0) (v := 0) (by decide +kernel) (by decide)) hG) (
  e_more (e_Sg.of (s_zret (by decide +kernel) rfl) hG) (
  e_more (e_Sg.of (s_iload (by decide +kernel)) hG) (
  e_more (e_Sg.of (s_if_ne (off := 15) (by decide +kernel) (by decide)) hG) (
  e_more (e_Sg.of (s_aload_n (k := 3) (by decide +kernel) rfl) hG) (
  e_more (e_Sg.of (s_iconst (n := 0) (v := 0) (by decide +kernel) (by decide)) hG) (
  e_more (e_Sg.of (s_lald (by decide +kernel)) hG) (
  e_more (e_Sg.of (s_iload (by decide +kernel)) hG) (
  e_more (e_Sg.of (s_i2l (by decide +kernel)) hG) (
  e_more (e_Sg.of (s_lcmp (by decide +kernel)) hG) (
  e_more (e_Sg.of (s_if_eq (off := 5) (by decide +kernel) (by decide)) hG) (
  e_more (e_Sg.of (s_iconst (n := 0) (v := 0) (by decide +kernel) (by decide)) hG) (
  e_more (e_Sg.of (s_zret (by decide +kernel) rfl) hG) (
  e_more (e_Sg.of (s_goto (off := 884) (by decide +kernel) (by decide)) hG) (
  e_no_more)))))))))))))))))))))))))
def tb_L15 (L : Nat) (xs : Nat → Int32) : eTb := [(982, t_ldO 1 1 982), (983, t_ldO 0 1 983), (984, t_ldI 4 2 984), (986, t_push (.inl 1) 1 986), (987, t_ii (fun a b => a + b) 987), (988, t_xald L xs 988), (989, t_ldO 0 1 989), (990, t_ldI 4 2 990), (992, t_push (.inl 2) 1 992), (993, t_ii (fun a b => a + b) 993), (994, t_xald L xs 994), (995, t_ldO 3 1 995), (996, t_call 4 17 1126 w_L_told 996), (999, t_stI 5 2 999), (1001, t_ldO 2 1 1001), (1002, t_ldO 0 1 1002), (1003, t_ldI 4 2 1003), (1005, t_push (.inl 1) 1 1005), (1006, t_ii (fun a b => a + b) 1006), (1007, t_xald L xs 1007), (1008, t_ldO 0 1 1008), (1009, t_ldI 4 2 1009), (1011, t_push (.inl 2) 1 1011), (1012, t_ii (fun a b => a + b) 1012), (1013, t_xald L xs 1013), (1014, t_call0 3 w_X5_told 1014), (1017, t_stI 6 2 1017), (1019, t_ldO 2 1 1019), (1020, t_call0 1 w_X5_thrown 1020), (1023, t_ldI 5 2 1023), (1025, t_ic (fun a b => a = b) 1030 1025), (1028, t_push (.inl 0) 1 1028), (1029, t_zret), (1030, t_ldI 5 2 1030), (1032, t_ifn (fun a => a = 0) 1047 1032), (1035, t_ldO 3 1 1035), (1036, t_push (.inl 0) 1 1036), (1037, t_lald 1037), (1038, t_ldI 6 2 1038), (1040, t_i1 (fun a => .inr (.inl a.toInt64)) 1040), (1041, t_ll (fun a b => .inl (lg_cmp a b)) 1041), (1042, t_if (fun a => a = 0) 1047 1042), (1045, t_push (.inl 0) 1 1045), (1046, t_zret), (1047, t_goto 1863)]
theorem st_L15 {G : eG} (hG : gr G = e_rf) : ∀ x ∈ tb_L15 (gn G) (gx G), e_Sg G RL i_L_law x.1 x.2 :=
  e_more (e_Sg.of (s_aload_n (k := 1) (by decide +kernel) rfl) hG) (
  e_more (e_Sg.of (s_aload_n (k := 0) (by decide +kernel) rfl) hG) (
  e_more (e_Sg.of (s_iload (by decide +kernel)) hG) (
  e_more (e_Sg.of (s_iconst (n := 1) (v := 1) (by decide +kernel) (by decide)) hG) (
  e_more (e_Sg.of (s_iadd (by decide +kernel)) hG) (
  e_more (s_xald (pc := 988) (by decide +kernel)) (
  e_more (e_Sg.of (s_aload_n (k := 0) (by decide +kernel) rfl) hG) (
  e_more (e_Sg.of (s_iload (by decide +kernel)) hG) (
  e_more (e_Sg.of (s_iconst (n := 2) (v := 2) (by decide +kernel) (by decide)) hG) (
  e_more (e_Sg.of (s_iadd (by decide +kernel)) hG) (
  e_more (s_xald (pc := 994) (by decide +kernel)) (
  e_more (e_Sg.of (s_aload_n (k := 3) (by decide +kernel) rfl) hG) (
  e_more (s_callSH (idx := 156) hG k_L_told (by decide +kernel) cl_L_told wd_1238 wd_1239 (by decide)) (
  e_more (e_Sg.of (s_istore (by decide +kernel) (by decide)) hG) (
  e_more (e_Sg.of (s_aload_n (k := 2) (by decide +kernel) rfl) hG) (
  e_more (e_Sg.of (s_aload_n (k := 0) (by decide +kernel) rfl) hG) (
  e_more (e_Sg.of (s_iload (by decide +kernel)) hG) (
  e_more (e_Sg.of (s_iconst (n := 1) (v := 1) (by decide +kernel) (by decide)) hG) (
  e_more (e_Sg.of (s_iadd (by decide +kernel)) hG) (
  e_more (s_xald (pc := 1007) (by decide +kernel)) (
  e_more (e_Sg.of (s_aload_n (k := 0) (by decide +kernel) rfl) hG) (
  e_more (e_Sg.of (s_iload (by decide +kernel)) hG) (
  e_more (e_Sg.of (s_iconst (n := 2) (v := 2) (by decide +kernel) (by decide)) hG) (
  e_more (e_Sg.of (s_iadd (by decide +kernel)) hG) (
  e_more (s_xald (pc := 1013) (by decide +kernel)) (
  e_more (e_Sg.of (e_call0 (s_callV (c := 5) (idx := 158) k_X5_told (by decide +kernel) cl_X5_told (by decide) rfl wd_1641 wd_1642 wd_1643 (by decide) (e_sf_rec rfl))) hG) (
  e_more (e_Sg.of (s_istore (by decide +kernel) (by decide)) hG) (
  e_more (e_Sg.of (s_aload_n (k := 2) (by decide +kernel) rfl) hG) (
  e_more (e_Sg.of (e_call0 (s_callV (c := 5) (idx := 107) k_X5_thrown (by decide +kernel) cl_X5_thrown (by decide) rfl wd_1398 wd_1399 wd_1400 (by decide) (e_sf_rec rfl))) hG) (
  e_more (e_Sg.of (s_iload (by decide +kernel)) hG) (
  e_more (e_Sg.of (s_ic_eq (off := 5) (by decide +kernel) (by decide)) hG) (
  e_more (e_Sg.of (s_iconst (n := 0) (v := 0) (by decide +kernel) (by decide)) hG) (
  e_more (e_Sg.of (s_zret (by decide +kernel) rfl) hG) (
  e_more (e_Sg.of (s_iload (by decide +kernel)) hG) (
  e_more (e_Sg.of (s_if_ne (off := 15) (by decide +kernel) (by decide)) hG) (
  e_more (e_Sg.of (s_aload_n (k := 3) (by decide +kernel) rfl) hG) (
  e_more (e_Sg.of (s_iconst (n := 0) (v := 0) (by decide +kernel) (by decide)) hG) (
  e_more (e_Sg.of (s_lald (by decide +kernel)) hG) (
  e_more (e_Sg.of (s_iload (by decide +kernel)) hG) (
  e_more (e_Sg.of (s_i2l (by decide +kernel)) hG) (
  e_more (e_Sg.of (s_lcmp (by decide +kernel)) hG) (
  e_more (e_Sg.of (s_if_eq (off := 5) (by decide +kernel) (by decide)) hG) (
  e_more (e_Sg.of (s_iconst (n := 0) (v := 0) (by decide +kernel) (by decide)) hG) (
  e_more (e_Sg.of (s_zret (by decide +kernel) rfl) hG) (
  e_more (e_Sg.of (s_goto (off := 816) (by decide +kernel) (by decide)) hG) (
  e_no_more)))))))))))))))))))))))))))))))))))))))))))))
def tb_L16 (L : Nat) (xs : Nat → Int32) : eTb := [(1050, t_ldO 1 1 1050), (1051, t_ldO 3 1 1051), (1052, t_call 2 1 6 w_L_undo 1052), (1055, t_stI 5 2 1055), (1057, t_ldO 2 1 1057), (1058, t_call0 1 w_X5_undo 1058), (1061, t_stI 6 2 1061), (1063, t_ldO 2 1 1063), (1064, t_call0 1 w_X5_thrown 1064), (1067, t_ldI 5 2 1067), (1069, t_ic (fun a b => a = b) 1074 1069), (1072, t_push (.inl 0) 1 1072), (1073, t_zret), (1074, t_ldI 5 2 1074), (1076, t_ifn (fun a => a = 0) 1091 1076), (1079, t_ldO 3 1 1079), (1080, t_push (.inl 0) 1 1080), (1081, t_lald 1081), (1082, t_ldI 6 2 1082), (1084, t_i1 (fun a => .inr (.inl a.toInt64)) 1084), (1085, t_ll (fun a b => .inl (lg_cmp a b)) 1085), (1086, t_if (fun a => a = 0) 1091 1086), (1089, t_push (.inl 0) 1 1089), (1090, t_zret), (1091, t_goto 1863)]
theorem st_L16 {G : eG} (hG : gr G = e_rf) : ∀ x ∈ tb_L16 (gn G) (gx G), e_Sg G RL i_L_law x.1 x.2 :=
  e_more (e_Sg.of (s_aload_n (k := 1) (by decide +kernel) rfl) hG) (
  e_more (e_Sg.of (s_aload_n (k := 3) (by decide +kernel) rfl) hG) (
  e_more (s_callSH (idx := 159) hG k_L_undo (by decide +kernel) cl_L_undo wd_1246 wd_1247 (by decide)) (
  e_more (e_Sg.of (s_istore (by decide +kernel) (by decide)) hG) (
  e_more (e_Sg.of (s_aload_n (k := 2) (by decide +kernel) rfl) hG) (
  e_more (e_Sg.of (e_call0 (s_callV (c := 5) (idx := 161) k_X5_undo (by decide +kernel) cl_X5_undo (by decide) rfl wd_1660 wd_1661 wd_1662 (by decide) (e_sf_rec rfl))) hG) (
  e_more (e_Sg.of (s_istore (by decide +kernel) (by decide)) hG) (
  e_more (e_Sg.of (s_aload_n (k := 2) (by decide +kernel) rfl) hG) (
  e_more (e_Sg.of (e_call0 (s_callV (c := 5) (idx := 107) k_X5_thrown (by decide +kernel) cl_X5_thrown (by decide) rfl wd_1398 wd_1399 wd_1400 (by decide) (e_sf_rec rfl))) hG) (
  e_more (e_Sg.of (s_iload (by decide +kernel)) hG) (
  e_more (e_Sg.of (s_ic_eq (off := 5) (by decide +kernel) (by decide)) hG) (
  e_more (e_Sg.of (s_iconst (n := 0) (v := 0) (by decide +kernel) (by decide)) hG) (
  e_more (e_Sg.of (s_zret (by decide +kernel) rfl) hG) (
  e_more (e_Sg.of (s_iload (by decide +kernel)) hG) (
  e_more (e_Sg.of (s_if_ne (off := 15) (by decide +kernel) (by decide)) hG) (
  e_more (e_Sg.of (s_aload_n (k := 3) (by decide +kernel) rfl) hG) (
  e_more (e_Sg.of (s_iconst (n := 0) (v := 0) (by decide +kernel) (by decide)) hG) (
  e_more (e_Sg.of (s_lald (by decide +kernel)) hG) (
  e_more (e_Sg.of (s_iload (by decide +kernel)) hG) (
  e_more (e_Sg.of (s_i2l (by decide +kernel)) hG) (
  e_more (e_Sg.of (s_lcmp (by decide +kernel)) hG) (
  e_more (e_Sg.of (s_if_eq (off := 5) (by decide +kernel) (by decide)) hG) (
  e_more (e_Sg.of (s_iconst (n := 0) (v := 0) (by decide +kernel) (by decide)) hG) (
  e_more (e_Sg.of (s_zret (by decide +kernel) rfl) hG) (
  e_more (e_Sg.of (s_goto (off := 772) (by decide +kernel) (by decide)) hG) (
  e_no_more)))))))))))))))))))))))))
def tb_L17 (L : Nat) (xs : Nat → Int32) : eTb := [(1094, t_ldO 1 1 1094), (1095, t_call0 1 w_X4_keep 1095), (1098, t_ldO 2 1 1098), (1099, t_call0 1 w_X5_keep 1099), (1102, t_ic (fun a b => a = b) 1863 1102), (1105, t_push (.inl 0) 1 1105), (1106, t_zret)]
theorem st_L17 {G : eG} (hG : gr G = e_rf) : ∀ x ∈ tb_L17 (gn G) (gx G), e_Sg G RL i_L_law x.1 x.2 :=
  e_more (e_Sg.of (s_aload_n (k := 1) (by decide +kernel) rfl) hG) (
  e_more (e_Sg.of (e_call0 (s_callV (c := 4) (idx := 162) k_X4_keep (by decide +kernel) cl_X4_keep (by decide) rfl wd_737 wd_738 wd_739 (by decide) (e_sf_rec rfl))) hG) (
  e_more (e_Sg.of (s_aload_n (k := 2) (by decide +kernel) rfl) hG) (
  e_more (e_Sg.of (e_call0 (s_callV (c := 5) (idx := 165) k_X5_keep (by decide +kernel) cl_X5_keep (by decide) rfl wd_1664 wd_1665 wd_1666 (by decide) (e_sf_rec rfl))) hG) (
  e_more (e_Sg.of (s_ic_eq (off := 761) (by decide +kernel) (by decide)) hG) (
  e_more (e_Sg.of (s_iconst (n := 0) (v := 0) (by decide +kernel) (by decide)) hG) (
  e_more (e_Sg.of (s_zret (by decide +kernel) rfl) hG) (
  e_no_more)))))))
def tb_L18 (L : Nat) (xs : Nat → Int32) : eTb := [(1107, t_ldO 1 1 1107), (1108, t_ldO 3 1 1108), (1109, t_call 2 1 6 w_L_restore 1109), (1112, t_stI 5 2 1112), (1114, t_ldO 2 1 1114), (1115, t_call0 1 w_X5_restore 1115), (1118, t_stI 6 2 1118), (1120, t_ldO 2 1 1120), (1121, t_call0 1 w_X5_thrown 1121), (1124, t_ldI 5 2 1124), (1126, t_ic (fun a b => a = b) 1131 1126), (1129, t_push (.inl 0) 1 1129), (1130, t_zret), (1131, t_ldI 5 2 1131), (1133, t_ifn (fun a => a = 0) 1148 1133), (1136, t_ldO 3 1 1136), (1137, t_push (.inl 0) 1 1137), (1138, t_lald 1138), (1139, t_ldI 6 2 1139), (1141, t_i1 (fun a => .inr (.inl a.toInt64)) 1141), (1142, t_ll (fun a b => .inl (lg_cmp a b)) 1142), (1143, t_if (fun a => a = 0) 1148 1143), (1146, t_push (.inl 0) 1 1146), (1147, t_zret), (1148, t_goto 1863)]
theorem st_L18 {G : eG} (hG : gr G = e_rf) : ∀ x ∈ tb_L18 (gn G) (gx G), e_Sg G RL i_L_law x.1 x.2 :=
  e_more (e_Sg.of (s_aload_n (k := 1) (by decide +kernel) rfl) hG) (
  e_more (e_Sg.of (s_aload_n (k := 3) (by decide +kernel) rfl) hG) (
  e_more (s_callSH (idx := 166) hG k_L_restore (by decide +kernel) cl_L_restore wd_1254 wd_1255 (by decide)) (
  e_more (e_Sg.of (s_istore (by decide +kernel) (by decide)) hG) (
  e_more (e_Sg.of (s_aload_n (k := 2) (by decide +kernel) rfl) hG) (
  e_more (e_Sg.of (e_call0 (s_callV (c := 5) (idx := 168) k_X5_restore (by decide +kernel) cl_X5_restore (by decide) rfl wd_1668 wd_1669 wd_1670 (by decide) (e_sf_rec rfl))) hG) (
  e_more (e_Sg.of (s_istore (by decide +kernel) (by decide)) hG) (
  e_more (e_Sg.of (s_aload_n (k := 2) (by decide +kernel) rfl) hG) (
  e_more (e_Sg.of (e_call0 (s_callV (c := 5) (idx := 107) k_X5_thrown (by decide +kernel) cl_X5_thrown (by decide) rfl wd_1398 wd_1399 wd_1400 (by decide) (e_sf_rec rfl))) hG) (
  e_more (e_Sg.of (s_iload (by decide +kernel)) hG) (
  e_more (e_Sg.of (s_ic_eq (off := 5) (by decide +kernel) (by decide)) hG) (
  e_more (e_Sg.of (s_iconst (n := 0) (v := 0) (by decide +kernel) (by decide)) hG) (
  e_more (e_Sg.of (s_zret (by decide +kernel) rfl) hG) (
  e_more (e_Sg.of (s_iload (by decide +kernel)) hG) (
  e_more (e_Sg.of (s_if_ne (off := 15) (by decide +kernel) (by decide)) hG) (
  e_more (e_Sg.of (s_aload_n (k := 3) (by decide +kernel) rfl) hG) (
  e_more (e_Sg.of (s_iconst (n := 0) (v := 0) (by decide +kernel) (by decide)) hG) (
  e_more (e_Sg.of (s_lald (by decide +kernel)) hG) (
  e_more (e_Sg.of (s_iload (by decide +kernel)) hG) (
  e_more (e_Sg.of (s_i2l (by decide +kernel)) hG) (
  e_more (e_Sg.of (s_lcmp (by decide +kernel)) hG) (
  e_more (e_Sg.of (s_if_eq (off := 5) (by decide +kernel) (by decide)) hG) (
  e_more (e_Sg.of (s_iconst (n := 0) (v := 0) (by decide +kernel) (by decide)) hG) (
  e_more (e_Sg.of (s_zret (by decide +kernel) rfl) hG) (
  e_more (e_Sg.of (s_goto (off := 715) (by decide +kernel) (by decide)) hG) (
  e_no_more)))))))))))))))))))))))))
def tb_L19 (L : Nat) (xs : Nat → Int32) : eTb := [(1151, t_ldO 1 1 1151), (1152, t_ldO 0 1 1152), (1153, t_ldI 4 2 1153), (1155, t_push (.inl 1) 1 1155), (1156, t_ii (fun a b => a + b) 1156), (1157, t_xald L xs 1157), (1158, t_ldO 0 1 1158), (1159, t_ldI 4 2 1159), (1161, t_push (.inl 2) 1 1161), (1162, t_ii (fun a b => a + b) 1162), (1163, t_xald L xs 1163), (1164, t_ldO 3 1 1164), (1165, t_call 4 1 6 w_L_pupilOf 1165), (1168, t_stI 5 2 1168), (1170, t_ldO 2 1 1170), (1171, t_ldO 0 1 1171), (1172, t_ldI 4 2 1172), (1174, t_push (.inl 1) 1 1174), (1175, t_ii (fun a b => a + b) 1175), (1176, t_xald L xs 1176), (1177, t_ldO 0 1 1177), (1178, t_ldI 4 2 1178), (1180, t_push (.inl 2) 1 1180), (1181, t_ii (fun a b => a + b) 1181), (1182, t_xald L xs 1182), (1183, t_call0 3 w_X5_pupilOf 1183), (1186, t_stI 6 2 1186), (1188, t_ldO 2 1 1188), (1189, t_call0 1 w_X5_thrown 1189), (1192, t_ldI 5 2 1192), (1194, t_ic (fun a b => a = b) 1199 1194), (1197, t_push (.inl 0) 1 1197), (1198, t_zret), (1199, t_ldI 5 2 1199), (1201, t_ifn (fun a => a = 0) 1216 1201), (1204, t_ldO 3 1 1204), (1205, t_push (.inl 0) 1 1205), (1206, t_lald 1206), (1207, t_ldI 6 2 1207), (1209, t_i1 (fun a => .inr (.inl a.toInt64)) 1209), (1210, t_ll (fun a b => .inl (lg_cmp a b)) 1210), (1211, t_if (fun a => a = 0) 1216 1211), (1214, t_push (.inl 0) 1 1214), (1215, t_zret), (1216, t_goto 1863)]
theorem st_L19 {G : eG} (hG : gr G = e_rf) : ∀ x ∈ tb_L19 (gn G) (gx G), e_Sg G RL i_L_law x.1 x.2 :=
  e_more (e_Sg.of (s_aload_n (k := 1) (by decide +kernel) rfl) hG) (
  e_more (e_Sg.of (s_aload_n (k := 0) (by decide +kernel) rfl) hG) (
  e_more (e_Sg.of (s_iload (by decide +kernel)) hG) (
  e_more (e_Sg.of (s_iconst (n := 1) (v := 1) (by decide +kernel) (by decide)) hG) (
  e_more (e_Sg.of (s_iadd (by decide +kernel)) hG) (
  e_more (s_xald (pc := 1157) (by decide +kernel)) (
  e_more (e_Sg.of (s_aload_n (k := 0) (by decide +kernel) rfl) hG) (
  e_more (e_Sg.of (s_iload (by decide +kernel)) hG) (
  e_more (e_Sg.of (s_iconst (n := 2) (v := 2) (by decide +kernel) (by decide)) hG) (
  e_more (e_Sg.of (s_iadd (by decide +kernel)) hG) (
  e_more (s_xald (pc := 1163) (by decide +kernel)) (
  e_more (e_Sg.of (s_aload_n (k := 3) (by decide +kernel) rfl) hG) (
  e_more (s_callSH (idx := 169) hG k_L_pupilOf (by decide +kernel) cl_L_pupilOf wd_1262 wd_1263 (by decide)) (
  e_more (e_Sg.of (s_istore (by decide +kernel) (by decide)) hG) (
  e_more (e_Sg.of (s_aload_n (k := 2) (by decide +kernel) rfl) hG) (
  e_more (e_Sg.of (s_aload_n (k := 0) (by decide +kernel) rfl) hG) (
  e_more (e_Sg.of (s_iload (by decide +kernel)) hG) (
  e_more (e_Sg.of (s_iconst (n := 1) (v := 1) (by decide +kernel) (by decide)) hG) (
  e_more (e_Sg.of (s_iadd (by decide +kernel)) hG) (
  e_more (s_xald (pc := 1176) (by decide +kernel)) (
  e_more (e_Sg.of (s_aload_n (k := 0) (by decide +kernel) rfl) hG) (
  e_more (e_Sg.of (s_iload (by decide +kernel)) hG) (
  e_more (e_Sg.of (s_iconst (n := 2) (v := 2) (by decide +kernel) (by decide)) hG) (
  e_more (e_Sg.of (s_iadd (by decide +kernel)) hG) (
  e_more (s_xald (pc := 1182) (by decide +kernel)) (
  e_more (e_Sg.of (e_call0 (s_callV (c := 5) (idx := 171) k_X5_pupilOf (by decide +kernel) cl_X5_pupilOf (by decide) rfl wd_1672 wd_1673 wd_1674 (by decide) (e_sf_rec rfl))) hG) (
  e_more (e_Sg.of (s_istore (by decide +kernel) (by decide)) hG) (
  e_more (e_Sg.of (s_aload_n (k := 2) (by decide +kernel) rfl) hG) (
  e_more (e_Sg.of (e_call0 (s_callV (c := 5) (idx := 107) k_X5_thrown (by decide +kernel) cl_X5_thrown (by decide) rfl wd_1398 wd_1399 wd_1400 (by decide) (e_sf_rec rfl))) hG) (
  e_more (e_Sg.of (s_iload (by decide +kernel)) hG) (
  e_more (e_Sg.of (s_ic_eq (off := 5) (by decide +kernel) (by decide)) hG) (
  e_more (e_Sg.of (s_iconst (n := 0) (v := 0) (by decide +kernel) (by decide)) hG) (
  e_more (e_Sg.of (s_zret (by decide +kernel) rfl) hG) (
  e_more (e_Sg.of (s_iload (by decide +kernel)) hG) (
  e_more (e_Sg.of (s_if_ne (off := 15) (by decide +kernel) (by decide)) hG) (
  e_more (e_Sg.of (s_aload_n (k := 3) (by decide +kernel) rfl) hG) (
  e_more (e_Sg.of (s_iconst (n := 0) (v := 0) (by decide +kernel) (by decide)) hG) (
  e_more (e_Sg.of (s_lald (by decide +kernel)) hG) (
  e_more (e_Sg.of (s_iload (by decide +kernel)) hG) (
  e_more (e_Sg.of (s_i2l (by decide +kernel)) hG) (
  e_more (e_Sg.of (s_lcmp (by decide +kernel)) hG) (
  e_more (e_Sg.of (s_if_eq (off := 5) (by decide +kernel) (by decide)) hG) (
  e_more (e_Sg.of (s_iconst (n := 0) (v := 0) (by decide +kernel) (by decide)) hG) (
  e_more (e_Sg.of (s_zret (by decide +kernel) rfl) hG) (
  e_more (e_Sg.of (s_goto (off := 647) (by decide +kernel) (by decide)) hG) (
  e_no_more)))))))))))))))))))))))))))))))))))))))))))))
def tb_L20 (L : Nat) (xs : Nat → Int32) : eTb := [(1219, t_ldO 1 1 1219), (1220, t_ldO 0 1 1220), (1221, t_ldI 4 2 1221), (1223, t_push (.inl 1) 1 1223), (1224, t_ii (fun a b => a + b) 1224), (1225, t_xald L xs 1225), (1226, t_ldO 0 1 1226), (1227, t_ldI 4 2 1227), (1229, t_push (.inl 2) 1 1229), (1230, t_ii (fun a b => a + b) 1230), (1231, t_xald L xs 1231), (1232, t_ldO 3 1 1232), (1233, t_call 4 1 6 w_L_instrumentOf 1233), (1236, t_stI 5 2 1236), (1238, t_ldO 2 1 1238), (1239, t_ldO 0 1 1239), (1240, t_ldI 4 2 1240), (1242, t_push (.inl 1) 1 1242), (1243, t_ii (fun a b => a + b) 1243), (1244, t_xald L xs 1244), (1245, t_ldO 0 1 1245), (1246, t_ldI 4 2 1246), (1248, t_push (.inl 2) 1 1248), (1249, t_ii (fun a b => a + b) 1249), (1250, t_xald L xs 1250), (1251, t_call0 3 w_X5_instrumentOf 1251), (1254, t_stI 6 2 1254), (1256, t_ldO 2 1 1256), (1257, t_call0 1 w_X5_thrown 1257), (1260, t_ldI 5 2 1260), (1262, t_ic (fun a b => a = b) 1267 1262), (1265, t_push (.inl 0) 1 1265), (1266, t_zret), (1267, t_ldI 5 2 1267), (1269, t_ifn (fun a => a = 0) 1284 1269), (1272, t_ldO 3 1 1272), (1273, t_push (.inl 0) 1 1273), (1274, t_lald 1274), (1275, t_ldI 6 2 1275), (1277, t_i1 (fun a => .inr (.inl a.toInt64)) 1277), (1278, t_ll (fun a b => .inl (lg_cmp a b)) 1278), (1279, t_if (fun a => a = 0) 1284 1279), (1282, t_push (.inl 0) 1 1282), (1283, t_zret), (1284, t_goto 1863)]
theorem st_L20 {G : eG} (hG : gr G = e_rf) : ∀ x ∈ tb_L20 (gn G) (gx G), e_Sg G RL i_L_law x.1 x.2 :=
  e_more (e_Sg.of (s_aload_n (k := 1) (by decide +kernel) rfl) hG) (
  e_more (e_Sg.of (s_aload_n (k := 0) (by decide +kernel) rfl) hG) (
  e_more (e_Sg.of (s_iload (by decide +kernel)) hG) (
  e_more (e_Sg.of (s_iconst (n := 1) (v := 1) (by decide +kernel) (by decide)) hG) (
  e_more (e_Sg.of (s_iadd (by decide +kernel)) hG) (
  e_more (s_xald (pc := 1225) (by decide +kernel)) (
  e_more (e_Sg.of (s_aload_n (k := 0) (by decide +kernel) rfl) hG) (
  e_more (e_Sg.of (s_iload (by decide +kernel)) hG) (
  e_more (e_Sg.of (s_iconst (n := 2) (v := 2) (by decide +kernel) (by decide)) hG) (
  e_more (e_Sg.of (s_iadd (by decide +kernel)) hG) (
  e_more (s_xald (pc := 1231) (by decide +kernel)) (
  e_more (e_Sg.of (s_aload_n (k := 3) (by decide +kernel) rfl) hG) (
  e_more (s_callSH (idx := 172) hG k_L_instrumentOf (by decide +kernel) cl_L_instrumentOf wd_1270 wd_1271 (by decide)) (
  e_more (e_Sg.of (s_istore (by decide +kernel) (by decide)) hG) (
  e_more (e_Sg.of (s_aload_n (k := 2) (by decide +kernel) rfl) hG) (
  e_more (e_Sg.of (s_aload_n (k := 0) (by decide +kernel) rfl) hG) (
  e_more (e_Sg.of (s_iload (by decide +kernel)) hG) (
  e_more (e_Sg.of (s_iconst (n := 1) (v := 1) (by decide +kernel) (by decide)) hG) (
  e_more (e_Sg.of (s_iadd (by decide +kernel)) hG) (
  e_more (s_xald (pc := 1244) (by decide +kernel)) (
  e_more (e_Sg.of (s_aload_n (k := 0) (by decide +kernel) rfl) hG) (
  e_more (e_Sg.of (s_iload (by decide +kernel)) hG) (
  e_more (e_Sg.of (s_iconst (n := 2) (v := 2) (by decide +kernel) (by decide)) hG) (
  e_more (e_Sg.of (s_iadd (by decide +kernel)) hG) (
  e_more (s_xald (pc := 1250) (by decide +kernel)) (
  e_more (e_Sg.of (e_call0 (s_callV (c := 5) (idx := 174) k_X5_instrumentOf (by decide +kernel) cl_X5_instrumentOf (by decide) rfl wd_1680 wd_1681 wd_1682 (by decide) (e_sf_rec rfl))) hG) (
  e_more (e_Sg.of (s_istore (by decide +kernel) (by decide)) hG) (
  e_more (e_Sg.of (s_aload_n (k := 2) (by decide +kernel) rfl) hG) (
  e_more (e_Sg.of (e_call0 (s_callV (c := 5) (idx := 107) k_X5_thrown (by decide +kernel) cl_X5_thrown (by decide) rfl wd_1398 wd_1399 wd_1400 (by decide) (e_sf_rec rfl))) hG) (
  e_more (e_Sg.of (s_iload (by decide +kernel)) hG) (
  e_more (e_Sg.of (s_ic_eq (off := 5) (by decide +kernel) (by decide)) hG) (
  e_more (e_Sg.of (s_iconst (n := 0) (v := 0) (by decide +kernel) (by decide)) hG) (
  e_more (e_Sg.of (s_zret (by decide +kernel) rfl) hG) (
  e_more (e_Sg.of (s_iload (by decide +kernel)) hG) (
  e_more (e_Sg.of (s_if_ne (off := 15) (by decide +kernel) (by decide)) hG) (
  e_more (e_Sg.of (s_aload_n (k := 3) (by decide +kernel) rfl) hG) (
  e_more (e_Sg.of (s_iconst (n := 0) (v := 0) (by decide +kernel) (by decide)) hG) (
  e_more (e_Sg.of (s_lald (by decide +kernel)) hG) (
  e_more (e_Sg.of (s_iload (by decide +kernel)) hG) (
  e_more (e_Sg.of (s_i2l (by decide +kernel)) hG) (
  e_more (e_Sg.of (s_lcmp (by decide +kernel)) hG) (
  e_more (e_Sg.of (s_if_eq (off := 5) (by decide +kernel) (by decide)) hG) (
  e_more (e_Sg.of (s_iconst (n := 0) (v := 0) (by decide +kernel) (by decide)) hG) (
  e_more (e_Sg.of (s_zret (by decide +kernel) rfl) hG) (
  e_more (e_Sg.of (s_goto (off := 579) (by decide +kernel) (by decide)) hG) (
  e_no_more)))))))))))))))))))))))))))))))))))))))))))))
def tb_L21 (L : Nat) (xs : Nat → Int32) : eTb := [(1287, t_ldO 1 1 1287), (1288, t_ldO 0 1 1288), (1289, t_ldI 4 2 1289), (1291, t_push (.inl 1) 1 1291), (1292, t_ii (fun a b => a + b) 1292), (1293, t_xald L xs 1293), (1294, t_ldO 3 1 1294), (1295, t_call 3 1 6 w_L_loan 1295), (1298, t_stI 5 2 1298), (1300, t_ldO 2 1 1300), (1301, t_ldO 0 1 1301), (1302, t_ldI 4 2 1302), (1304, t_push (.inl 1) 1 1304), (1305, t_ii (fun a b => a + b) 1305), (1306, t_xald L xs 1306), (1307, t_call0 2 w_X5_loan 1307), (1310, t_stI 6 2 1310), (1312, t_ldO 2 1 1312), (1313, t_call0 1 w_X5_thrown 1313), (1316, t_ldI 5 2 1316), (1318, t_ic (fun a b => a = b) 1323 1318), (1321, t_push (.inl 0) 1 1321), (1322, t_zret), (1323, t_ldI 5 2 1323), (1325, t_ifn (fun a => a = 0) 1340 1325), (1328, t_ldO 3 1 1328), (1329, t_push (.inl 0) 1 1329), (1330, t_lald 1330), (1331, t_ldI 6 2 1331), (1333, t_i1 (fun a => .inr (.inl a.toInt64)) 1333), (1334, t_ll (fun a b => .inl (lg_cmp a b)) 1334), (1335, t_if (fun a => a = 0) 1340 1335), (1338, t_push (.inl 0) 1 1338), (1339, t_zret), (1340, t_goto 1863)]
theorem st_L21 {G : eG} (hG : gr G = e_rf) : ∀ x ∈ tb_L21 (gn G) (gx G), e_Sg G RL i_L_law x.1 x.2 :=
  e_more (e_Sg.of (s_aload_n (k := 1) (by decide +kernel) rfl) hG) (
  e_more (e_Sg.of (s_aload_n (k := 0) (by decide +kernel) rfl) hG) (
  e_more (e_Sg.of (s_iload (by decide +kernel)) hG) (
  e_more (e_Sg.of (s_iconst (n := 1) (v := 1) (by decide +kernel) (by decide)) hG) (
  e_more (e_Sg.of (s_iadd (by decide +kernel)) hG) (
  e_more (s_xald (pc := 1293) (by decide +kernel)) (
  e_more (e_Sg.of (s_aload_n (k := 3) (by decide +kernel) rfl) hG) (
  e_more (s_callSH (idx := 175) hG k_L_loan (by decide +kernel) cl_L_loan wd_1278 wd_1279 (by decide)) (
  e_more (e_Sg.of (s_istore (by decide +kernel) (by decide)) hG) (
  e_more (e_Sg.of (s_aload_n (k := 2) (by decide +kernel) rfl) hG) (
  e_more (e_Sg.of (s_aload_n (k := 0) (by decide +kernel) rfl) hG) (
  e_more (e_Sg.of (s_iload (by decide +kernel)) hG) (
  e_more (e_Sg.of (s_iconst (n := 1) (v := 1) (by decide +kernel) (by decide)) hG) (
  e_more (e_Sg.of (s_iadd (by decide +kernel)) hG) (
  e_more (s_xald (pc := 1306) (by decide +kernel)) (
  e_more (e_Sg.of (e_call0 (s_callV (c := 5) (idx := 177) k_X5_loan (by decide +kernel) cl_X5_loan (by decide) rfl wd_1688 wd_1689 wd_1690 (by decide) (e_sf_rec rfl))) hG) (
  e_more (e_Sg.of (s_istore (by decide +kernel) (by decide)) hG) (
  e_more (e_Sg.of (s_aload_n (k := 2) (by decide +kernel) rfl) hG) (
  e_more (e_Sg.of (e_call0 (s_callV (c := 5) (idx := 107) k_X5_thrown (by decide +kernel) cl_X5_thrown (by decide) rfl wd_1398 wd_1399 wd_1400 (by decide) (e_sf_rec rfl))) hG) (
  e_more (e_Sg.of (s_iload (by decide +kernel)) hG) (
  e_more (e_Sg.of (s_ic_eq (off := 5) (by decide +kernel) (by decide)) hG) (
  e_more (e_Sg.of (s_iconst (n := 0) (v := 0) (by decide +kernel) (by decide)) hG) (
  e_more (e_Sg.of (s_zret (by decide +kernel) rfl) hG) (
  e_more (e_Sg.of (s_iload (by decide +kernel)) hG) (
  e_more (e_Sg.of (s_if_ne (off := 15) (by decide +kernel) (by decide)) hG) (
  e_more (e_Sg.of (s_aload_n (k := 3) (by decide +kernel) rfl) hG) (
  e_more (e_Sg.of (s_iconst (n := 0) (v := 0) (by decide +kernel) (by decide)) hG) (
  e_more (e_Sg.of (s_lald (by decide +kernel)) hG) (
  e_more (e_Sg.of (s_iload (by decide +kernel)) hG) (
  e_more (e_Sg.of (s_i2l (by decide +kernel)) hG) (
  e_more (e_Sg.of (s_lcmp (by decide +kernel)) hG) (
  e_more (e_Sg.of (s_if_eq (off := 5) (by decide +kernel) (by decide)) hG) (
  e_more (e_Sg.of (s_iconst (n := 0) (v := 0) (by decide +kernel) (by decide)) hG) (
  e_more (e_Sg.of (s_zret (by decide +kernel) rfl) hG) (
  e_more (e_Sg.of (s_goto (off := 523) (by decide +kernel) (by decide)) hG) (
  e_no_more)))))))))))))))))))))))))))))))))))
def tb_L22 (L : Nat) (xs : Nat → Int32) : eTb := [(1343, t_ldO 1 1 1343), (1344, t_ldO 0 1 1344), (1345, t_ldI 4 2 1345), (1347, t_push (.inl 1) 1 1347), (1348, t_ii (fun a b => a + b) 1348), (1349, t_xald L xs 1349), (1350, t_ldO 0 1 1350), (1351, t_ldI 4 2 1351), (1353, t_push (.inl 2) 1 1353), (1354, t_ii (fun a b => a + b) 1354), (1355, t_xald L xs 1355), (1356, t_ldO 0 1 1356), (1357, t_ldI 4 2 1357), (1359, t_push (.inl 3) 1 1359), (1360, t_ii (fun a b => a + b) 1360), (1361, t_xald L xs 1361), (1362, t_ldO 3 1 1362), (1363, t_call 5 1 6 w_L_part 1363), (1366, t_stI 5 2 1366), (1368, t_ldO 2 1 1368), (1369, t_ldO 0 1 1369), (1370, t_ldI 4 2 1370), (1372, t_push (.inl 1) 1 1372), (1373, t_ii (fun a b => a + b) 1373), (1374, t_xald L xs 1374), (1375, t_ldO 0 1 1375), (1376, t_ldI 4 2 1376), (1378, t_push (.inl 2) 1 1378), (1379, t_ii (fun a b => a + b) 1379), (1380, t_xald L xs 1380), (1381, t_ldO 0 1 1381), (1382, t_ldI 4 2 1382), (1384, t_push (.inl 3) 1 1384), (1385, t_ii (fun a b => a + b) 1385), (1386, t_xald L xs 1386), (1387, t_call0 4 w_X5_part 1387), (1390, t_stI 6 2 1390), (1392, t_ldO 2 1 1392), (1393, t_call0 1 w_X5_thrown 1393), (1396, t_ldI 5 2 1396), (1398, t_ic (fun a b => a = b) 1403 1398), (1401, t_push (.inl 0) 1 1401), (1402, t_zret), (1403, t_ldI 5 2 1403), (1405, t_ifn (fun a => a = 0) 1420 1405), (1408, t_ldO 3 1 1408), (1409, t_push (.inl 0) 1 1409), (1410, t_lald 1410), (1411, t_ldI 6 2 1411), (1413, t_i1 (fun a => .inr (.inl a.toInt64)) 1413), (1414, t_ll (fun a b => .inl (lg_cmp a b)) 1414), (1415, t_if (fun a => a = 0) 1420 1415), (1418, t_push (.inl 0) 1 1418), (1419, t_zret), (1420, t_goto 1863)]
theorem st_L22 {G : eG} (hG : gr G = e_rf) : ∀ x ∈ tb_L22 (gn G) (gx G), e_Sg G RL i_L_law x.1 x.2 :=
  e_more (e_Sg.of (s_aload_n (k := 1) (by decide +kernel) rfl) hG) (
  e_more (e_Sg.of (s_aload_n (k := 0) (by decide +kernel) rfl) hG) (
  e_more (e_Sg.of (s_iload (by decide +kernel)) hG) (
  e_more (e_Sg.of (s_iconst (n := 1) (v := 1) (by decide +kernel) (by decide)) hG) (
  e_more (e_Sg.of (s_iadd (by decide +kernel)) hG) (
  e_more (s_xald (pc := 1349) (by decide +kernel)) (
  e_more (e_Sg.of (s_aload_n (k := 0) (by decide +kernel) rfl) hG) (
  e_more (e_Sg.of (s_iload (by decide +kernel)) hG) (
  e_more (e_Sg.of (s_iconst (n := 2) (v := 2) (by decide +kernel) (by decide)) hG) (
  e_more (e_Sg.of (s_iadd (by decide +kernel)) hG) (
  e_more (s_xald (pc := 1355) (by decide +kernel)) (
  e_more (e_Sg.of (s_aload_n (k := 0) (by decide +kernel) rfl) hG) (
  e_more (e_Sg.of (s_iload (by decide +kernel)) hG) (
  e_more (e_Sg.of (s_iconst (n := 3) (v := 3) (by decide +kernel) (by decide)) hG) (
  e_more (e_Sg.of (s_iadd (by decide +kernel)) hG) (
  e_more (s_xald (pc := 1361) (by decide +kernel)) (
  e_more (e_Sg.of (s_aload_n (k := 3) (by decide +kernel) rfl) hG) (
  e_more (s_callSH (idx := 178) hG k_L_part (by decide +kernel) cl_L_part wd_1286 wd_1287 (by decide)) (
  e_more (e_Sg.of (s_istore (by decide +kernel) (by decide)) hG) (
  e_more (e_Sg.of (s_aload_n (k := 2) (by decide +kernel) rfl) hG) (
  e_more (e_Sg.of (s_aload_n (k := 0) (by decide +kernel) rfl) hG) (
  e_more (e_Sg.of (s_iload (by decide +kernel)) hG) (
  e_more (e_Sg.of (s_iconst (n := 1) (v := 1) (by decide +kernel) (by decide)) hG) (
  e_more (e_Sg.of (s_iadd (by decide +kernel)) hG) (
  e_more (s_xald (pc := 1374) (by decide +kernel)) (
  e_more (e_Sg.of (s_aload_n (k := 0) (by decide +kernel) rfl) hG) (
  e_more (e_Sg.of (s_iload (by decide +kernel)) hG) (
  e_more (e_Sg.of (s_iconst (n := 2) (v := 2) (by decide +kernel) (by decide)) hG) (
  e_more (e_Sg.of (s_iadd (by decide +kernel)) hG) (
  e_more (s_xald (pc := 1380) (by decide +kernel)) (
  e_more (e_Sg.of (s_aload_n (k := 0) (by decide +kernel) rfl) hG) (
  e_more (e_Sg.of (s_iload (by decide +kernel)) hG) (
  e_more (e_Sg.of (s_iconst (n := 3) (v := 3) (by decide +kernel) (by decide)) hG) (
  e_more (e_Sg.of (s_iadd (by decide +kernel)) hG) (
  e_more (s_xald (pc := 1386) (by decide +kernel)) (
  e_more (e_Sg.of (e_call0 (s_callV (c := 5) (idx := 181) k_X5_part (by decide +kernel) cl_X5_part (by decide) rfl wd_1696 wd_1697 wd_1698 (by decide) (e_sf_rec rfl))) hG) (
  e_more (e_Sg.of (s_istore (by decide +kernel) (by decide)) hG) (
  e_more (e_Sg.of (s_aload_n (k := 2) (by decide +kernel) rfl) hG) (
  e_more (e_Sg.of (e_call0 (s_callV (c := 5) (idx := 107) k_X5_thrown (by decide +kernel) cl_X5_thrown (by decide) rfl wd_1398 wd_1399 wd_1400 (by decide) (e_sf_rec rfl))) hG) (
  e_more (e_Sg.of (s_iload (by decide +kernel)) hG) (
  e_more (e_Sg.of (s_ic_eq (off := 5) (by decide +kernel) (by decide)) hG) (
  e_more (e_Sg.of (s_iconst (n := 0) (v := 0) (by decide +kernel) (by decide)) hG) (
  e_more (e_Sg.of (s_zret (by decide +kernel) rfl) hG) (
  e_more (e_Sg.of (s_iload (by decide +kernel)) hG) (
  e_more (e_Sg.of (s_if_ne (off := 15) (by decide +kernel) (by decide)) hG) (
  e_more (e_Sg.of (s_aload_n (k := 3) (by decide +kernel) rfl) hG) (
  e_more (e_Sg.of (s_iconst (n := 0) (v := 0) (by decide +kernel) (by decide)) hG) (
  e_more (e_Sg.of (s_lald (by decide +kernel)) hG) (
  e_more (e_Sg.of (s_iload (by decide +kernel)) hG) (
  e_more (e_Sg.of (s_i2l (by decide +kernel)) hG) (
  e_more (e_Sg.of (s_lcmp (by decide +kernel)) hG) (
  e_more (e_Sg.of (s_if_eq (off := 5) (by decide +kernel) (by decide)) hG) (
  e_more (e_Sg.of (s_iconst (n := 0) (v := 0) (by decide +kernel) (by decide)) hG) (
  e_more (e_Sg.of (s_zret (by decide +kernel) rfl) hG) (
  e_more (e_Sg.of (s_goto (off := 443) (by decide +kernel) (by decide)) hG) (
  e_no_more)))))))))))))))))))))))))))))))))))))))))))))))))))))))
def tb_L23 (L : Nat) (xs : Nat → Int32) : eTb := [(1423, t_ldO 1 1 1423), (1424, t_ldO 0 1 1424), (1425, t_ldI 4 2 1425), (1427, t_push (.inl 1) 1 1427), (1428, t_ii (fun a b => a + b) 1428), (1429, t_xald L xs 1429), (1430, t_ldO 3 1 1430), (1431, t_call 3 1 6 w_L_count 1431), (1434, t_stI 5 2 1434), (1436, t_ldO 2 1 1436), (1437, t_ldO 0 1 1437), (1438, t_ldI 4 2 1438), (1440, t_push (.inl 1) 1 1440), (1441, t_ii (fun a b => a + b) 1441), (1442, t_xald L xs 1442), (1443, t_call0 2 w_X5_count 1443), (1446, t_stI 6 2 1446), (1448, t_ldO 2 1 1448), (1449, t_call0 1 w_X5_thrown 1449), (1452, t_ldI 5 2 1452), (1454, t_ic (fun a b => a = b) 1459 1454), (1457, t_push (.inl 0) 1 1457), (1458, t_zret), (1459, t_ldI 5 2 1459), (1461, t_ifn (fun a => a = 0) 1476 1461), (1464, t_ldO 3 1 1464), (1465, t_push (.inl 0) 1 1465), (1466, t_lald 1466), (1467, t_ldI 6 2 1467), (1469, t_i1 (fun a => .inr (.inl a.toInt64)) 1469), (1470, t_ll (fun a b => .inl (lg_cmp a b)) 1470), (1471, t_if (fun a => a = 0) 1476 1471), (1474, t_push (.inl 0) 1 1474), (1475, t_zret), (1476, t_goto 1863)]
theorem st_L23 {G : eG} (hG : gr G = e_rf) : ∀ x ∈ tb_L23 (gn G) (gx G), e_Sg G RL i_L_law x.1 x.2 :=
  e_more (e_Sg.of (s_aload_n (k := 1) (by decide +kernel) rfl) hG) (
  e_more (e_Sg.of (s_aload_n (k := 0) (by decide +kernel) rfl) hG) (
  e_more (e_Sg.of (s_iload (by decide +kernel)) hG) (
  e_more (e_Sg.of (s_iconst (n := 1) (v := 1) (by decide +kernel) (by decide)) hG) (
  e_more (e_Sg.of (s_iadd (by decide +kernel)) hG) (
  e_more (s_xald (pc := 1429) (by decide +kernel)) (
  e_more (e_Sg.of (s_aload_n (k := 3) (by decide +kernel) rfl) hG) (
  e_more (s_callSH (idx := 182) hG k_L_count (by decide +kernel) cl_L_count wd_1299 wd_1300 (by decide)) (
  e_more (e_Sg.of (s_istore (by decide +kernel) (by decide)) hG) (
  e_more (e_Sg.of (s_aload_n (k := 2) (by decide +kernel) rfl) hG) (
  e_more (e_Sg.of (s_aload_n (k := 0) (by decide +kernel) rfl) hG) (
  e_more (e_Sg.of (s_iload (by decide +kernel)) hG) (
  e_more (e_Sg.of (s_iconst (n := 1) (v := 1) (by decide +kernel) (by decide)) hG) (
  e_more (e_Sg.of (s_iadd (by decide +kernel)) hG) (
  e_more (s_xald (pc := 1442) (by decide +kernel)) (
  e_more (e_Sg.of (e_call0 (s_callV (c := 5) (idx := 184) k_X5_count (by decide +kernel) cl_X5_count (by decide) rfl wd_1704 wd_1705 wd_1706 (by decide) (e_sf_rec rfl))) hG) (
  e_more (e_Sg.of (s_istore (by decide +kernel) (by decide)) hG) (
  e_more (e_Sg.of (s_aload_n (k := 2) (by decide +kernel) rfl) hG) (
  e_more (e_Sg.of (e_call0 (s_callV (c := 5) (idx := 107) k_X5_thrown (by decide +kernel) cl_X5_thrown (by decide) rfl wd_1398 wd_1399 wd_1400 (by decide) (e_sf_rec rfl))) hG) (
  e_more (e_Sg.of (s_iload (by decide +kernel)) hG) (
  e_more (e_Sg.of (s_ic_eq (off := 5) (by decide +kernel) (by decide)) hG) (
  e_more (e_Sg.of (s_iconst (n := 0) (v := 0) (by decide +kernel) (by decide)) hG) (
  e_more (e_Sg.of (s_zret (by decide +kernel) rfl) hG) (
  e_more (e_Sg.of (s_iload (by decide +kernel)) hG) (
  e_more (e_Sg.of (s_if_ne (off := 15) (by decide +kernel) (by decide)) hG) (
  e_more (e_Sg.of (s_aload_n (k := 3) (by decide +kernel) rfl) hG) (
  e_more (e_Sg.of (s_iconst (n := 0) (v := 0) (by decide +kernel) (by decide)) hG) (
  e_more (e_Sg.of (s_lald (by decide +kernel)) hG) (
  e_more (e_Sg.of (s_iload (by decide +kernel)) hG) (
  e_more (e_Sg.of (s_i2l (by decide +kernel)) hG) (
  e_more (e_Sg.of (s_lcmp (by decide +kernel)) hG) (
  e_more (e_Sg.of (s_if_eq (off := 5) (by decide +kernel) (by decide)) hG) (
  e_more (e_Sg.of (s_iconst (n := 0) (v := 0) (by decide +kernel) (by decide)) hG) (
  e_more (e_Sg.of (s_zret (by decide +kernel) rfl) hG) (
  e_more (e_Sg.of (s_goto (off := 387) (by decide +kernel) (by decide)) hG) (
  e_no_more)))))))))))))))))))))))))))))))))))
def tb_L24 (L : Nat) (xs : Nat → Int32) : eTb := [(1479, t_ldO 1 1 1479), (1480, t_ldO 0 1 1480), (1481, t_ldI 4 2 1481), (1483, t_push (.inl 1) 1 1483), (1484, t_ii (fun a b => a + b) 1484), (1485, t_xald L xs 1485), (1486, t_ldO 0 1 1486), (1487, t_ldI 4 2 1487), (1489, t_push (.inl 2) 1 1489), (1490, t_ii (fun a b => a + b) 1490), (1491, t_xald L xs 1491), (1492, t_ldO 3 1 1492), (1493, t_call 4 1 6 w_L_noLoan 1493), (1496, t_stI 5 2 1496), (1498, t_ldO 2 1 1498), (1499, t_ldO 0 1 1499), (1500, t_ldI 4 2 1500), (1502, t_push (.inl 1) 1 1502), (1503, t_ii (fun a b => a + b) 1503), (1504, t_xald L xs 1504), (1505, t_ldO 0 1 1505), (1506, t_ldI 4 2 1506), (1508, t_push (.inl 2) 1 1508), (1509, t_ii (fun a b => a + b) 1509), (1510, t_xald L xs 1510), (1511, t_call0 3 w_X5_noLoan 1511), (1514, t_stI 6 2 1514), (1516, t_ldO 2 1 1516), (1517, t_call0 1 w_X5_thrown 1517), (1520, t_ldI 5 2 1520), (1522, t_ic (fun a b => a = b) 1527 1522), (1525, t_push (.inl 0) 1 1525), (1526, t_zret), (1527, t_ldI 5 2 1527), (1529, t_ifn (fun a => a = 0) 1544 1529), (1532, t_ldO 3 1 1532), (1533, t_push (.inl 0) 1 1533), (1534, t_lald 1534), (1535, t_ldI 6 2 1535), (1537, t_i1 (fun a => .inr (.inl a.toInt64)) 1537), (1538, t_ll (fun a b => .inl (lg_cmp a b)) 1538), (1539, t_if (fun a => a = 0) 1544 1539), (1542, t_push (.inl 0) 1 1542), (1543, t_zret), (1544, t_goto 1863)]
theorem st_L24 {G : eG} (hG : gr G = e_rf) : ∀ x ∈ tb_L24 (gn G) (gx G), e_Sg G RL i_L_law x.1 x.2 :=
  e_more (e_Sg.of (s_aload_n (k := 1) (by decide +kernel) rfl) hG) (
  e_more (e_Sg.of (s_aload_n (k := 0) (by decide +kernel) rfl) hG) (
  e_more (e_Sg.of (s_iload (by decide +kernel)) hG) (
  e_more (e_Sg.of (s_iconst (n := 1) (v := 1) (by decide +kernel) (by decide)) hG) (
  e_more (e_Sg.of (s_iadd (by decide +kernel)) hG) (
  e_more (s_xald (pc := 1485) (by decide +kernel)) (
  e_more (e_Sg.of (s_aload_n (k := 0) (by decide +kernel) rfl) hG) (
  e_more (e_Sg.of (s_iload (by decide +kernel)) hG) (
  e_more (e_Sg.of (s_iconst (n := 2) (v := 2) (by decide +kernel) (by decide)) hG) (
  e_more (e_Sg.of (s_iadd (by decide +kernel)) hG) (
  e_more (s_xald (pc := 1491) (by decide +kernel)) (
  e_more (e_Sg.of (s_aload_n (k := 3) (by decide +kernel) rfl) hG) (
  e_more (s_callSH (idx := 185) hG k_L_noLoan (by decide +kernel) cl_L_noLoan wd_1307 wd_1308 (by decide)) (
  e_more (e_Sg.of (s_istore (by decide +kernel) (by decide)) hG) (
  e_more (e_Sg.of (s_aload_n (k := 2) (by decide +kernel) rfl) hG) (
  e_more (e_Sg.of (s_aload_n (k := 0) (by decide +kernel) rfl) hG) (
  e_more (e_Sg.of (s_iload (by decide +kernel)) hG) (
  e_more (e_Sg.of (s_iconst (n := 1) (v := 1) (by decide +kernel) (by decide)) hG) (
  e_more (e_Sg.of (s_iadd (by decide +kernel)) hG) (
  e_more (s_xald (pc := 1504) (by decide +kernel)) (
  e_more (e_Sg.of (s_aload_n (k := 0) (by decide +kernel) rfl) hG) (
  e_more (e_Sg.of (s_iload (by decide +kernel)) hG) (
  e_more (e_Sg.of (s_iconst (n := 2) (v := 2) (by decide +kernel) (by decide)) hG) (
  e_more (e_Sg.of (s_iadd (by decide +kernel)) hG) (
  e_more (s_xald (pc := 1510) (by decide +kernel)) (
  e_more (e_Sg.of (e_call0 (s_callV (c := 5) (idx := 187) k_X5_noLoan (by decide +kernel) cl_X5_noLoan (by decide) rfl wd_1717 wd_1718 wd_1719 (by decide) (e_sf_rec rfl))) hG) (
  e_more (e_Sg.of (s_istore (by decide +kernel) (by decide)) hG) (
  e_more (e_Sg.of (s_aload_n (k := 2) (by decide +kernel) rfl) hG) (
  e_more (e_Sg.of (e_call0 (s_callV (c := 5) (idx := 107) k_X5_thrown (by decide +kernel) cl_X5_thrown (by decide) rfl wd_1398 wd_1399 wd_1400 (by decide) (e_sf_rec rfl))) hG) (
  e_more (e_Sg.of (s_iload (by decide +kernel)) hG) (
  e_more (e_Sg.of (s_ic_eq (off := 5) (by decide +kernel) (by decide)) hG) (
  e_more (e_Sg.of (s_iconst (n := 0) (v := 0) (by decide +kernel) (by decide)) hG) (
  e_more (e_Sg.of (s_zret (by decide +kernel) rfl) hG) (
  e_more (e_Sg.of (s_iload (by decide +kernel)) hG) (
  e_more (e_Sg.of (s_if_ne (off := 15) (by decide +kernel) (by decide)) hG) (
  e_more (e_Sg.of (s_aload_n (k := 3) (by decide +kernel) rfl) hG) (
  e_more (e_Sg.of (s_iconst (n := 0) (v := 0) (by decide +kernel) (by decide)) hG) (
  e_more (e_Sg.of (s_lald (by decide +kernel)) hG) (
  e_more (e_Sg.of (s_iload (by decide +kernel)) hG) (
  e_more (e_Sg.of (s_i2l (by decide +kernel)) hG) (
  e_more (e_Sg.of (s_lcmp (by decide +kernel)) hG) (
  e_more (e_Sg.of (s_if_eq (off := 5) (by decide +kernel) (by decide)) hG) (
  e_more (e_Sg.of (s_iconst (n := 0) (v := 0) (by decide +kernel) (by decide)) hG) (
  e_more (e_Sg.of (s_zret (by decide +kernel) rfl) hG) (
  e_more (e_Sg.of (s_goto (off := 319) (by decide +kernel) (by decide)) hG) (
  e_no_more)))))))))))))))))))))))))))))))))))))))))))))
def tb_L25 (L : Nat) (xs : Nat → Int32) : eTb := [(1547, t_ldO 1 1 1547), (1548, t_ldO 0 1 1548), (1549, t_ldI 4 2 1549), (1551, t_push (.inl 1) 1 1551), (1552, t_ii (fun a b => a + b) 1552), (1553, t_xald L xs 1553), (1554, t_ldO 0 1 1554), (1555, t_ldI 4 2 1555), (1557, t_push (.inl 2) 1 1557), (1558, t_ii (fun a b => a + b) 1558), (1559, t_xald L xs 1559), (1560, t_ldO 3 1 1560), (1561, t_call 4 1 6 w_L_noLesson 1561), (1564, t_stI 5 2 1564), (1566, t_ldO 2 1 1566), (1567, t_ldO 0 1 1567), (1568, t_ldI 4 2 1568), (1570, t_push (.inl 1) 1 1570), (1571, t_ii (fun a b => a + b) 1571), (1572, t_xald L xs 1572), (1573, t_ldO 0 1 1573), (1574, t_ldI 4 2 1574), (1576, t_push (.inl 2) 1 1576), (1577, t_ii (fun a b => a + b) 1577), (1578, t_xald L xs 1578), (1579, t_call0 3 w_X5_noLesson 1579), (1582, t_stI 6 2 1582), (1584, t_ldO 2 1 1584), (1585, t_call0 1 w_X5_thrown 1585), (1588, t_ldI 5 2 1588), (1590, t_ic (fun a b => a = b) 1595 1590), (1593, t_push (.inl 0) 1 1593), (1594, t_zret), (1595, t_ldI 5 2 1595), (1597, t_ifn (fun a => a = 0) 1612 1597), (1600, t_ldO 3 1 1600), (1601, t_push (.inl 0) 1 1601), (1602, t_lald 1602), (1603, t_ldI 6 2 1603), (1605, t_i1 (fun a => .inr (.inl a.toInt64)) 1605), (1606, t_ll (fun a b => .inl (lg_cmp a b)) 1606), (1607, t_if (fun a => a = 0) 1612 1607), (1610, t_push (.inl 0) 1 1610), (1611, t_zret), (1612, t_goto 1863)]
theorem st_L25 {G : eG} (hG : gr G = e_rf) : ∀ x ∈ tb_L25 (gn G) (gx G), e_Sg G RL i_L_law x.1 x.2 :=
  e_more (e_Sg.of (s_aload_n (k := 1) (by decide +kernel) rfl) hG) (
  e_more (e_Sg.of (s_aload_n (k := 0) (by decide +kernel) rfl) hG) (
  e_more (e_Sg.of (s_iload (by decide +kernel)) hG) (
  e_more (e_Sg.of (s_iconst (n := 1) (v := 1) (by decide +kernel) (by decide)) hG) (
  e_more (e_Sg.of (s_iadd (by decide +kernel)) hG) (
  e_more (s_xald (pc := 1553) (by decide +kernel)) (
  e_more (e_Sg.of (s_aload_n (k := 0) (by decide +kernel) rfl) hG) (
  e_more (e_Sg.of (s_iload (by decide +kernel)) hG) (
  e_more (e_Sg.of (s_iconst (n := 2) (v := 2) (by decide +kernel) (by decide)) hG) (
  e_more (e_Sg.of (s_iadd (by decide +kernel)) hG) (
  e_more (s_xald (pc := 1559) (by decide +kernel)) (
  e_more (e_Sg.of (s_aload_n (k := 3) (by decide +kernel) rfl) hG) (
  e_more (s_callSH (idx := 188) hG k_L_noLesson (by decide +kernel) cl_L_noLesson wd_1314 wd_1315 (by decide)) (
  e_more (e_Sg.of (s_istore (by decide +kernel) (by decide)) hG) (
  e_more (e_Sg.of (s_aload_n (k := 2) (by decide +kernel) rfl) hG) (
  e_more (e_Sg.of (s_aload_n (k := 0) (by decide +kernel) rfl) hG) (
  e_more (e_Sg.of (s_iload (by decide +kernel)) hG) (
  e_more (e_Sg.of (s_iconst (n := 1) (v := 1) (by decide +kernel) (by decide)) hG) (
  e_more (e_Sg.of (s_iadd (by decide +kernel)) hG) (
  e_more (s_xald (pc := 1572) (by decide +kernel)) (
  e_more (e_Sg.of (s_aload_n (k := 0) (by decide +kernel) rfl) hG) (
  e_more (e_Sg.of (s_iload (by decide +kernel)) hG) (
  e_more (e_Sg.of (s_iconst (n := 2) (v := 2) (by decide +kernel) (by decide)) hG) (
  e_more (e_Sg.of (s_iadd (by decide +kernel)) hG) (
  e_more (s_xald (pc := 1578) (by decide +kernel)) (
  e_more (e_Sg.of (e_call0 (s_callV (c := 5) (idx := 190) k_X5_noLesson (by decide +kernel) cl_X5_noLesson (by decide) rfl wd_1721 wd_1722 wd_1723 (by decide) (e_sf_rec rfl))) hG) (
  e_more (e_Sg.of (s_istore (by decide +kernel) (by decide)) hG) (
  e_more (e_Sg.of (s_aload_n (k := 2) (by decide +kernel) rfl) hG) (
  e_more (e_Sg.of (e_call0 (s_callV (c := 5) (idx := 107) k_X5_thrown (by decide +kernel) cl_X5_thrown (by decide) rfl wd_1398 wd_1399 wd_1400 (by decide) (e_sf_rec rfl))) hG) (
  e_more (e_Sg.of (s_iload (by decide +kernel)) hG) (
  e_more (e_Sg.of (s_ic_eq (off := 5) (by decide +kernel) (by decide)) hG) (
  e_more (e_Sg.of (s_iconst (n := 0) (v := 0) (by decide +kernel) (by decide)) hG) (
  e_more (e_Sg.of (s_zret (by decide +kernel) rfl) hG) (
  e_more (e_Sg.of (s_iload (by decide +kernel)) hG) (
  e_more (e_Sg.of (s_if_ne (off := 15) (by decide +kernel) (by decide)) hG) (
  e_more (e_Sg.of (s_aload_n (k := 3) (by decide +kernel) rfl) hG) (
  e_more (e_Sg.of (s_iconst (n := 0) (v := 0) (by decide +kernel) (by decide)) hG) (
  e_more (e_Sg.of (s_lald (by decide +kernel)) hG) (
  e_more (e_Sg.of (s_iload (by decide +kernel)) hG) (
  e_more (e_Sg.of (s_i2l (by decide +kernel)) hG) (
  e_more (e_Sg.of (s_lcmp (by decide +kernel)) hG) (
  e_more (e_Sg.of (s_if_eq (off := 5) (by decide +kernel) (by decide)) hG) (
  e_more (e_Sg.of (s_iconst (n := 0) (v := 0) (by decide +kernel) (by decide)) hG) (
  e_more (e_Sg.of (s_zret (by decide +kernel) rfl) hG) (
  e_more (e_Sg.of (s_goto (off := 251) (by decide +kernel) (by decide)) hG) (
  e_no_more)))))))))))))))))))))))))))))))))))))))))))))
def tb_L26 (L : Nat) (xs : Nat → Int32) : eTb := [(1615, t_ldO 1 1 1615), (1616, t_ldO 0 1 1616), (1617, t_ldI 4 2 1617), (1619, t_push (.inl 1) 1 1619), (1620, t_ii (fun a b => a + b) 1620), (1621, t_xald L xs 1621), (1622, t_ldO 3 1 1622), (1623, t_call 3 1 6 w_L_shortOf 1623), (1626, t_stI 5 2 1626), (1628, t_ldO 2 1 1628), (1629, t_ldO 0 1 1629), (1630, t_ldI 4 2 1630), (1632, t_push (.inl 1) 1 1632), (1633, t_ii (fun a b => a + b) 1633), (1634, t_xald L xs 1634), (1635, t_call0 2 w_X5_shortOf 1635), (1638, t_stI 6 2 1638), (1640, t_ldO 2 1 1640), (1641, t_call0 1 w_X5_thrown 1641), (1644, t_ldI 5 2 1644), (1646, t_ic (fun a b => a = b) 1651 1646), (1649, t_push (.inl 0) 1 1649), (1650, t_zret), (1651, t_ldI 5 2 1651), (1653, t_ifn (fun a => a = 0) 1668 1653), (1656, t_ldO 3 1 1656), (1657, t_push (.inl 0) 1 1657), (1658, t_lald 1658), (1659, t_ldI 6 2 1659), (1661, t_i1 (fun a => .inr (.inl a.toInt64)) 1661), (1662, t_ll (fun a b => .inl (lg_cmp a b)) 1662), (1663, t_if (fun a => a = 0) 1668 1663), (1666, t_push (.inl 0) 1 1666), (1667, t_zret), (1668, t_goto 1863)]
theorem st_L26 {G : eG} (hG : gr G = e_rf) : ∀ x ∈ tb_L26 (gn G) (gx G), e_Sg G RL i_L_law x.1 x.2 :=
  e_more (e_Sg.of (s_aload_n (k := 1) (by decide +kernel) rfl) hG) (
  e_more (e_Sg.of (s_aload_n (k := 0) (by decide +kernel) rfl) hG) (
  e_more (e_Sg.of (s_iload (by decide +kernel)) hG) (
  e_more (e_Sg.of (s_iconst (n := 1) (v := 1) (by decide +kernel) (by decide)) hG) (
  e_more (e_Sg.of (s_iadd (by decide +kernel)) hG) (
  e_more (s_xald (pc := 1621) (by decide +kernel)) (
  e_more (e_Sg.of (s_aload_n (k := 3) (by decide +kernel) rfl) hG) (
  e_more (s_callSH (idx := 191) hG k_L_shortOf (by decide +kernel) cl_L_shortOf wd_1321 wd_1322 (by decide)) (
  e_more (e_Sg.of (s_istore (by decide +kernel) (by decide)) hG) (
  e_more (e_Sg.of (s_aload_n (k := 2) (by decide +kernel) rfl) hG) (
  e_more (e_Sg.of (s_aload_n (k := 0) (by decide +kernel) rfl) hG) (
  e_more (e_Sg.of (s_iload (by decide +kernel)) hG) (
  e_more (e_Sg.of (s_iconst (n := 1) (v := 1) (by decide +kernel) (by decide)) hG) (
  e_more (e_Sg.of (s_iadd (by decide +kernel)) hG) (
  e_more (s_xald (pc := 1634) (by decide +kernel)) (
  e_more (e_Sg.of (e_call0 (s_callV (c := 5) (idx := 193) k_X5_shortOf (by decide +kernel) cl_X5_shortOf (by decide) rfl wd_1725 wd_1726 wd_1727 (by decide) (e_sf_rec rfl))) hG) (
  e_more (e_Sg.of (s_istore (by decide +kernel) (by decide)) hG) (
  e_more (e_Sg.of (s_aload_n (k := 2) (by decide +kernel) rfl) hG) (
  e_more (e_Sg.of (e_call0 (s_callV (c := 5) (idx := 107) k_X5_thrown (by decide +kernel) cl_X5_thrown (by decide) rfl wd_1398 wd_1399 wd_1400 (by decide) (e_sf_rec rfl))) hG) (
  e_more (e_Sg.of (s_iload (by decide +kernel)) hG) (
  e_more (e_Sg.of (s_ic_eq (off := 5) (by decide +kernel) (by decide)) hG) (
  e_more (e_Sg.of (s_iconst (n := 0) (v := 0) (by decide +kernel) (by decide)) hG) (
  e_more (e_Sg.of (s_zret (by decide +kernel) rfl) hG) (
  e_more (e_Sg.of (s_iload (by decide +kernel)) hG) (
  e_more (e_Sg.of (s_if_ne (off := 15) (by decide +kernel) (by decide)) hG) (
  e_more (e_Sg.of (s_aload_n (k := 3) (by decide +kernel) rfl) hG) (
  e_more (e_Sg.of (s_iconst (n := 0) (v := 0) (by decide +kernel) (by decide)) hG) (
  e_more (e_Sg.of (s_lald (by decide +kernel)) hG) (
  e_more (e_Sg.of (s_iload (by decide +kernel)) hG) (
  e_more (e_Sg.of (s_i2l (by decide +kernel)) hG) (
  e_more (e_Sg.of (s_lcmp (by decide +kernel)) hG) (
  e_more (e_Sg.of (s_if_eq (off := 5) (by decide +kernel) (by decide)) hG) (
  e_more (e_Sg.of (s_iconst (n := 0) (v := 0) (by decide +kernel) (by decide)) hG) (
  e_more (e_Sg.of (s_zret (by decide +kernel) rfl) hG) (
  e_more (e_Sg.of (s_goto (off := 195) (by decide +kernel) (by decide)) hG) (
  e_no_more)))))))))))))))))))))))))))))))))))
def tb_L27 (L : Nat) (xs : Nat → Int32) : eTb := [(1671, t_ldO 1 1 1671), (1672, t_ldO 0 1 1672), (1673, t_ldI 4 2 1673), (1675, t_push (.inl 1) 1 1675), (1676, t_ii (fun a b => a + b) 1676), (1677, t_xald L xs 1677), (1678, t_ldO 3 1 1678), (1679, t_call 3 1 6 w_L_most 1679), (1682, t_stI 5 2 1682), (1684, t_ldO 2 1 1684), (1685, t_ldO 0 1 1685), (1686, t_ldI 4 2 1686), (1688, t_push (.inl 1) 1 1688), (1689, t_ii (fun a b => a + b) 1689), (1690, t_xald L xs 1690), (1691, t_call0 2 w_X5_most 1691), (1694, t_stI 6 2 1694), (1696, t_ldO 2 1 1696), (1697, t_call0 1 w_X5_thrown 1697), (1700, t_ldI 5 2 1700), (1702, t_ic (fun a b => a = b) 1707 1702), (1705, t_push (.inl 0) 1 1705), (1706, t_zret), (1707, t_ldI 5 2 1707), (1709, t_ifn (fun a => a = 0) 1724 1709), (1712, t_ldO 3 1 1712), (1713, t_push (.inl 0) 1 1713), (1714, t_lald 1714), (1715, t_ldI 6 2 1715), (1717, t_i1 (fun a => .inr (.inl a.toInt64)) 1717), (1718, t_ll (fun a b => .inl (lg_cmp a b)) 1718), (1719, t_if (fun a => a = 0) 1724 1719), (1722, t_push (.inl 0) 1 1722), (1723, t_zret), (1724, t_goto 1863)]
theorem st_L27 {G : eG} (hG : gr G = e_rf) : ∀ x ∈ tb_L27 (gn G) (gx G), e_Sg G RL i_L_law x.1 x.2 :=
  e_more (e_Sg.of (s_aload_n (k := 1) (by decide +kernel) rfl) hG) (
  e_more (e_Sg.of (s_aload_n (k := 0) (by decide +kernel) rfl) hG) (
  e_more (e_Sg.of (s_iload (by decide +kernel)) hG) (
  e_more (e_Sg.of (s_iconst (n := 1) (v := 1) (by decide +kernel) (by decide)) hG) (
  e_more (e_Sg.of (s_iadd (by decide +kernel)) hG) (
  e_more (s_xald (pc := 1677) (by decide +kernel)) (
  e_more (e_Sg.of (s_aload_n (k := 3) (by decide +kernel) rfl) hG) (
  e_more (s_callSH (idx := 194) hG k_L_most (by decide +kernel) cl_L_most wd_1328 wd_1329 (by decide)) (
  e_more (e_Sg.of (s_istore (by decide +kernel) (by decide)) hG) (
  e_more (e_Sg.of (s_aload_n (k := 2) (by decide +kernel) rfl) hG) (
  e_more (e_Sg.of (s_aload_n (k := 0) (by decide +kernel) rfl) hG) (
  e_more (e_Sg.of (s_iload (by decide +kernel)) hG) (
  e_more (e_Sg.of (s_iconst (n := 1) (v := 1) (by decide +kernel) (by decide)) hG) (
  e_more (e_Sg.of (s_iadd (by decide +kernel)) hG) (
  e_more (s_xald (pc := 1690) (by decide +kernel)) (
  e_more (e_Sg.of (e_call0 (s_callV (c := 5) (idx := 196) k_X5_most (by decide +kernel) cl_X5_most (by decide) rfl wd_1729 wd_1730 wd_1731 (by decide) (e_sf_rec rfl))) hG) (
  e_more (e_Sg.of (s_istore (by decide +kernel) (by decide)) hG) (
  e_more (e_Sg.of (s_aload_n (k := 2) (by decide +kernel) rfl) hG) (
  e_more (e_Sg.of (e_call0 (s_callV (c := 5) (idx := 107) k_X5_thrown (by decide +kernel) cl_X5_thrown (by decide) rfl wd_1398 wd_1399 wd_1400 (by decide) (e_sf_rec rfl))) hG) (
  e_more (e_Sg.of (s_iload (by decide +kernel)) hG) (
  e_more (e_Sg.of (s_ic_eq (off := 5) (by decide +kernel) (by decide)) hG) (
  e_more (e_Sg.of (s_iconst (n := 0) (v := 0) (by decide +kernel) (by decide)) hG) (
  e_more (e_Sg.of (s_zret (by decide +kernel) rfl) hG) (
  e_more (e_Sg.of (s_iload (by decide +kernel)) hG) (
  e_more (e_Sg.of (s_if_ne (off := 15) (by decide +kernel) (by decide)) hG) (
  e_more (e_Sg.of (s_aload_n (k := 3) (by decide +kernel) rfl) hG) (
  e_more (e_Sg.of (s_iconst (n := 0) (v := 0) (by decide +kernel) (by decide)) hG) (
  e_more (e_Sg.of (s_lald (by decide +kernel)) hG) (
  e_more (e_Sg.of (s_iload (by decide +kernel)) hG) (
  e_more (e_Sg.of (s_i2l (by decide +kernel)) hG) (
  e_more (e_Sg.of (s_lcmp (by decide +kernel)) hG) (
  e_more (e_Sg.of (s_if_eq (off := 5) (by decide +kernel) (by decide)) hG) (
  e_more (e_Sg.of (s_iconst (n := 0) (v := 0) (by decide +kernel) (by decide)) hG) (
  e_more (e_Sg.of (s_zret (by decide +kernel) rfl) hG) (
  e_more (e_Sg.of (s_goto (off := 139) (by decide +kernel) (by decide)) hG) (
  e_no_more)))))))))))))))))))))))))))))))))))
def tb_L28 (L : Nat) (xs : Nat → Int32) : eTb := [(1727, t_ldO 1 1 1727), (1728, t_call0 1 w_X4_bestMarch 1728), (1731, t_ldO 2 1 1731), (1732, t_call0 1 w_X5_bestMarch 1732), (1735, t_ic (fun a b => a = b) 1863 1735), (1738, t_push (.inl 0) 1 1738), (1739, t_zret)]
theorem st_L28 {G : eG} (hG : gr G = e_rf) : ∀ x ∈ tb_L28 (gn G) (gx G), e_Sg G RL i_L_law x.1 x.2 :=
  e_more (e_Sg.of (s_aload_n (k := 1) (by decide +kernel) rfl) hG) (
  e_more (e_Sg.of (e_call0 (s_callV (c := 4) (idx := 197) k_X4_bestMarch (by decide +kernel) cl_X4_bestMarch (by decide) rfl wd_756 wd_757 wd_758 (by decide) (e_sf_rec rfl))) hG) (
  e_more (e_Sg.of (s_aload_n (k := 2) (by decide +kernel) rfl) hG) (
  e_more (e_Sg.of (e_call0 (s_callV (c := 5) (idx := 200) k_X5_bestMarch (by decide +kernel) cl_X5_bestMarch (by decide) rfl wd_1744 wd_1745 wd_1746 (by decide) (e_sf_rec rfl))) hG) (
  e_more (e_Sg.of (s_ic_eq (off := 128) (by decide +kernel) (by decide)) hG) (
  e_more (e_Sg.of (s_iconst (n := 0) (v := 0) (by decide +kernel) (by decide)) hG) (
  e_more (e_Sg.of (s_zret (by decide +kernel) rfl) hG) (
  e_no_more)))))))
def tb_L29 (L : Nat) (xs : Nat → Int32) : eTb := [(1740, t_ldO 1 1 1740), (1741, t_ldO 0 1 1741), (1742, t_ldI 4 2 1742), (1744, t_push (.inl 1) 1 1744), (1745, t_ii (fun a b => a + b) 1745), (1746, t_xald L xs 1746), (1747, t_ldO 0 1 1747), (1748, t_ldI 4 2 1748), (1750, t_push (.inl 2) 1 1750), (1751, t_ii (fun a b => a + b) 1751), (1752, t_xald L xs 1752), (1753, t_ldO 3 1 1753), (1754, t_call 4 1 6 w_L_helps 1754), (1757, t_stI 5 2 1757), (1759, t_ldO 2 1 1759), (1760, t_ldO 0 1 1760), (1761, t_ldI 4 2 1761), (1763, t_push (.inl 1) 1 1763), (1764, t_ii (fun a b => a + b) 1764), (1765, t_xald L xs 1765), (1766, t_ldO 0 1 1766), (1767, t_ldI 4 2 1767), (1769, t_push (.inl 2) 1 1769), (1770, t_ii (fun a b => a + b) 1770), (1771, t_xald L xs 1771), (1772, t_call0 3 w_X5_helps 1772), (1775, t_stI 6 2 1775), (1777, t_ldO 2 1 1777), (1778, t_call0 1 w_X5_thrown 1778), (1781, t_ldI 5 2 1781), (1783, t_ic (fun a b => a = b) 1788 1783), (1786, t_push (.inl 0) 1 1786), (1787, t_zret), (1788, t_ldI 5 2 1788), (1790, t_ifn (fun a => a = 0) 1805 1790), (1793, t_ldO 3 1 1793), (1794, t_push (.inl 0) 1 1794), (1795, t_lald 1795), (1796, t_ldI 6 2 1796), (1798, t_i1 (fun a => .inr (.inl a.toInt64)) 1798), (1799, t_ll (fun a b => .inl (lg_cmp a b)) 1799), (1800, t_if (fun a => a = 0) 1805 1800), (1803, t_push (.inl 0) 1 1803), (1804, t_zret), (1805, t_goto 1863)]
theorem st_L29 {G : eG} (hG : gr G = e_rf) : ∀ x ∈ tb_L29 (gn G) (gx G), e_Sg G RL i_L_law x.1 x.2 :=
  e_more (e_Sg.of (s_aload_n (k := 1) (by decide +kernel) rfl) hG) (
  e_more (e_Sg.of (s_aload_n (k := 0) (by decide +kernel) rfl) hG) (
  e_more (e_Sg.of (s_iload (by decide +kernel)) hG) (
  e_more (e_Sg.of (s_iconst (n := 1) (v := 1) (by decide +kernel) (by decide)) hG) (
  e_more (e_Sg.of (s_iadd (by decide +kernel)) hG) (
  e_more (s_xald (pc := 1746) (by decide +kernel)) (
  e_more (e_Sg.of (s_aload_n (k := 0) (by decide +kernel) rfl) hG) (
  e_more (e_Sg.of (s_iload (by decide +kernel)) hG) (
  e_more (e_Sg.of (s_iconst (n := 2) (v := 2) (by decide +kernel) (by decide)) hG) (
  e_more (e_Sg.of (s_iadd (by decide +kernel)) hG) (
  e_more (s_xald (pc := 1752) (by decide +kernel)) (
  e_more (e_Sg.of (s_aload_n (k := 3) (by decide +kernel) rfl) hG) (
  e_more (s_callSH (idx := 201) hG k_L_helps (by decide +kernel) cl_L_helps wd_1335 wd_1336 (by decide)) (
  e_more (e_Sg.of (s_istore (by decide +kernel) (by decide)) hG) (
  e_more (e_Sg.of (s_aload_n (k := 2) (by decide +kernel) rfl) hG) (
  e_more (e_Sg.of (s_aload_n (k := 0) (by decide +kernel) rfl) hG) (
  e_more (e_Sg.of (s_iload (by decide +kernel)) hG) (
  e_more (e_Sg.of (s_iconst (n := 1) (v := 1) (by decide +kernel) (by decide)) hG) (
  e_more (e_Sg.of (s_iadd (by decide +kernel)) hG) (
  e_more (s_xald (pc := 1765) (by decide +kernel)) (
  e_more (e_Sg.of (s_aload_n (k := 0) (by decide +kernel) rfl) hG) (
  e_more (e_Sg.of (s_iload (by decide +kernel)) hG) (
  e_more (e_Sg.of (s_iconst (n := 2) (v := 2) (by decide +kernel) (by decide)) hG) (
  e_more (e_Sg.of (s_iadd (by decide +kernel)) hG) (
  e_more (s_xald (pc := 1771) (by decide +kernel)) (
  e_more (e_Sg.of (e_call0 (s_callV (c := 5) (idx := 203) k_X5_helps (by decide +kernel) cl_X5_helps (by decide) rfl wd_1752 wd_1753 wd_1754 (by decide) (e_sf_rec rfl))) hG) (
  e_more (e_Sg.of (s_istore (by decide +kernel) (by decide)) hG) (
  e_more (e_Sg.of (s_aload_n (k := 2) (by decide +kernel) rfl) hG) (
  e_more (e_Sg.of (e_call0 (s_callV (c := 5) (idx := 107) k_X5_thrown (by decide +kernel) cl_X5_thrown (by decide) rfl wd_1398 wd_1399 wd_1400 (by decide) (e_sf_rec rfl))) hG) (
  e_more (e_Sg.of (s_iload (by decide +kernel)) hG) (
  e_more (e_Sg.of (s_ic_eq (off := 5) (by decide +kernel) (by decide)) hG) (
  e_more (e_Sg.of (s_iconst (n := 0) (v := 0) (by decide +kernel) (by decide)) hG) (
  e_more (e_Sg.of (s_zret (by decide +kernel) rfl) hG) (
  e_more (e_Sg.of (s_iload (by decide +kernel)) hG) (
  e_more (e_Sg.of (s_if_ne (off := 15) (by decide +kernel) (by decide)) hG) (
  e_more (e_Sg.of (s_aload_n (k := 3) (by decide +kernel) rfl) hG) (
  e_more (e_Sg.of (s_iconst (n := 0) (v := 0) (by decide +kernel) (by decide)) hG) (
  e_more (e_Sg.of (s_lald (by decide +kernel)) hG) (
  e_more (e_Sg.of (s_iload (by decide +kernel)) hG) (
  e_more (e_Sg.of (s_i2l (by decide +kernel)) hG) (
  e_more (e_Sg.of (s_lcmp (by decide +kernel)) hG) (
  e_more (e_Sg.of (s_if_eq (off := 5) (by decide +kernel) (by decide)) hG) (
  e_more (e_Sg.of (s_iconst (n := 0) (v := 0) (by decide +kernel) (by decide)) hG) (
  e_more (e_Sg.of (s_zret (by decide +kernel) rfl) hG) (
  e_more (e_Sg.of (s_goto (off := 58) (by decide +kernel) (by decide)) hG) (
  e_no_more)))))))))))))))))))))))))))))))))))))))))))))
def tb_L30 (L : Nat) (xs : Nat → Int32) : eTb := [(1808, t_ldO 1 1 1808), (1809, t_call0 1 w_X4_played 1809), (1812, t_stD 5 2 1812), (1814, t_ldO 2 1 1814), (1815, t_call0 1 w_X5_played 1815), (1818, t_stD 7 2 1818), (1820, t_ldD 5 2 1820), (1822, t_ldD 7 2 1822), (1824, t_dc (fun a b => Op.cmpValue (FP.dcmp a b) .l) 1824), (1825, t_if (fun a => a = 0) 1846 1825), (1828, t_ldD 5 2 1828), (1830, t_ldD 5 2 1830), (1832, t_dc (fun a b => Op.cmpValue (FP.dcmp a b) .l) 1832), (1833, t_if (fun a => a = 0) 1844 1833), (1836, t_ldD 7 2 1836), (1838, t_ldD 7 2 1838), (1840, t_dc (fun a b => Op.cmpValue (FP.dcmp a b) .l) 1840), (1841, t_ifn (fun a => a = 0) 1846 1841), (1844, t_push (.inl 0) 1 1844), (1845, t_zret), (1846, t_goto 1863)]
theorem st_L30 {G : eG} (hG : gr G = e_rf) : ∀ x ∈ tb_L30 (gn G) (gx G), e_Sg G RL i_L_law x.1 x.2 :=
  e_more (e_Sg.of (s_aload_n (k := 1) (by decide +kernel) rfl) hG) (
  e_more (e_Sg.of (e_call0 (s_callV (c := 4) (idx := 204) k_X4_played (by decide +kernel) cl_X4_played (by decide) rfl wd_805 wd_806 wd_807 (by decide) (e_sf_rec rfl))) hG) (
  e_more (e_Sg.of (s_dstore (by decide +kernel) (by decide)) hG) (
  e_more (e_Sg.of (s_aload_n (k := 2) (by decide +kernel) rfl) hG) (
  e_more (e_Sg.of (e_call0 (s_callV (c := 5) (idx := 208) k_X5_played (by decide +kernel) cl_X5_played (by decide) rfl wd_1760 wd_1761 wd_1762 (by decide) (e_sf_rec rfl))) hG) (
  e_more (e_Sg.of (s_dstore (by decide +kernel) (by decide)) hG) (
  e_more (e_Sg.of (s_dload (by decide +kernel)) hG) (
  e_more (e_Sg.of (s_dload (by decide +kernel)) hG) (
  e_more (e_Sg.of (s_dcmp (op := .l) (by decide +kernel)) hG) (
  e_more (e_Sg.of (s_if_eq (off := 21) (by decide +kernel) (by decide)) hG) (
  e_more (e_Sg.of (s_dload (by decide +kernel)) hG) (
  e_more (e_Sg.of (s_dload (by decide +kernel)) hG) (
  e_more (e_Sg.of (s_dcmp (op := .l) (by decide +kernel)) hG) (
  e_more (e_Sg.of (s_if_eq (off := 11) (by decide +kernel) (by decide)) hG) (
  e_more (e_Sg.of (s_dload (by decide +kernel)) hG) (
  e_more (e_Sg.of (s_dload (by decide +kernel)) hG) (
  e_more (e_Sg.of (s_dcmp (op := .l) (by decide +kernel)) hG) (
  e_more (e_Sg.of (s_if_ne (off := 5) (by decide +kernel) (by decide)) hG) (
  e_more (e_Sg.of (s_iconst (n := 0) (v := 0) (by decide +kernel) (by decide)) hG) (
  e_more (e_Sg.of (s_zret (by decide +kernel) rfl) hG) (
  e_more (e_Sg.of (s_goto (off := 17) (by decide +kernel) (by decide)) hG) (
  e_no_more)))))))))))))))))))))
def tb_L31 (L : Nat) (xs : Nat → Int32) : eTb := [(1849, t_ldO 1 1 1849), (1850, t_call 1 64 4480 w_X4_digest 1850), (1853, t_ldO 2 1 1853), (1854, t_call0 1 w_X5_digest 1854), (1857, t_ll (fun a b => .inl (lg_cmp a b)) 1857), (1858, t_if (fun a => a = 0) 1863 1858), (1861, t_push (.inl 0) 1 1861), (1862, t_zret)]
theorem st_L31 {G : eG} (hG : gr G = e_rf) : ∀ x ∈ tb_L31 (gn G) (gx G), e_Sg G RL i_L_law x.1 x.2 :=
  e_more (e_Sg.of (s_aload_n (k := 1) (by decide +kernel) rfl) hG) (
  e_more (e_Sg.of (s_callV (c := 4) (idx := 209) k_X4_digest (by decide +kernel) cl_X4_digest (by decide) rfl wd_809 wd_810 wd_811 (by decide) (e_sf_rec rfl)) hG) (
  e_more (e_Sg.of (s_aload_n (k := 2) (by decide +kernel) rfl) hG) (
  e_more (e_Sg.of (e_call0 (s_callV (c := 5) (idx := 213) k_X5_digest (by decide +kernel) cl_X5_digest (by decide) rfl wd_1768 wd_1769 wd_1770 (by decide) (e_sf_rec rfl))) hG) (
  e_more (e_Sg.of (s_lcmp (by decide +kernel)) hG) (
  e_more (e_Sg.of (s_if_eq (off := 5) (by decide +kernel) (by decide)) hG) (
  e_more (e_Sg.of (s_iconst (n := 0) (v := 0) (by decide +kernel) (by decide)) hG) (
  e_more (e_Sg.of (s_zret (by decide +kernel) rfl) hG) (
  e_no_more))))))))
def tb_LT (L : Nat) (xs : Nat → Int32) : eTb := [(1863, t_iinc 4 4 1863), (1866, t_goto 23), (1869, t_push (.inl 1) 1 1869), (1870, t_zret)]
theorem st_LT {G : eG} (hG : gr G = e_rf) : ∀ x ∈ tb_LT (gn G) (gx G), e_Sg G RL i_L_law x.1 x.2 :=
  e_more (e_Sg.of (s_iinc (z := 4) (n := 4) (by decide +kernel) (by decide) (by decide)) hG) (
  e_more (e_Sg.of (s_goto (off := (-1843)) (by decide +kernel) (by decide)) hG) (
  e_more (e_Sg.of (s_iconst (n := 1) (v := 1) (by decide +kernel) (by decide)) hG) (
  e_more (e_Sg.of (s_zret (by decide +kernel) rfl) hG) (
  e_no_more))))
def tb_LL (L : Nat) (xs : Nat → Int32) : List eTb := [tb_LH L xs, tb_L0 L xs, tb_L1 L xs, tb_L2 L xs, tb_L3 L xs, tb_L4 L xs, tb_L5 L xs, tb_L6 L xs, tb_L7 L xs, tb_L8 L xs, tb_L9 L xs, tb_L10 L xs, tb_L11 L xs, tb_L12 L xs, tb_L13 L xs, tb_L14 L xs, tb_L15 L xs, tb_L16 L xs, tb_L17 L xs, tb_L18 L xs, tb_L19 L xs, tb_L20 L xs, tb_L21 L xs, tb_L22 L xs, tb_L23 L xs, tb_L24 L xs, tb_L25 L xs, tb_L26 L xs, tb_L27 L xs, tb_L28 L xs, tb_L29 L xs, tb_L30 L xs, tb_L31 L xs, tb_LT L xs]
def tb_L (L : Nat) (xs : Nat → Int32) : eTb := (tb_LL L xs).flatten
theorem st_L {G : eG} (hG : gr G = e_rf) : ∀ x ∈ tb_L (gn G) (gx G), e_Sg G RL i_L_law x.1 x.2 := by
  have h : ∀ l ∈ tb_LL (gn G) (gx G), ∀ x ∈ l, e_Sg G RL i_L_law x.1 x.2 := List.forall_mem_cons.mpr ⟨st_LH hG, List.forall_mem_cons.mpr ⟨st_L0 hG, List.forall_mem_cons.mpr ⟨st_L1 hG, List.forall_mem_cons.mpr ⟨st_L2 hG, List.forall_mem_cons.mpr ⟨st_L3 hG, List.forall_mem_cons.mpr ⟨st_L4 hG, List.forall_mem_cons.mpr ⟨st_L5 hG, List.forall_mem_cons.mpr ⟨st_L6 hG, List.forall_mem_cons.mpr ⟨st_L7 hG, List.forall_mem_cons.mpr ⟨st_L8 hG, List.forall_mem_cons.mpr ⟨st_L9 hG, List.forall_mem_cons.mpr ⟨st_L10 hG, List.forall_mem_cons.mpr ⟨st_L11 hG, List.forall_mem_cons.mpr ⟨st_L12 hG, List.forall_mem_cons.mpr ⟨st_L13 hG, List.forall_mem_cons.mpr ⟨st_L14 hG, List.forall_mem_cons.mpr ⟨st_L15 hG, List.forall_mem_cons.mpr ⟨st_L16 hG, List.forall_mem_cons.mpr ⟨st_L17 hG, List.forall_mem_cons.mpr ⟨st_L18 hG, List.forall_mem_cons.mpr ⟨st_L19 hG, List.forall_mem_cons.mpr ⟨st_L20 hG, List.forall_mem_cons.mpr ⟨st_L21 hG, List.forall_mem_cons.mpr ⟨st_L22 hG, List.forall_mem_cons.mpr ⟨st_L23 hG, List.forall_mem_cons.mpr ⟨st_L24 hG, List.forall_mem_cons.mpr ⟨st_L25 hG, List.forall_mem_cons.mpr ⟨st_L26 hG, List.forall_mem_cons.mpr ⟨st_L27 hG, List.forall_mem_cons.mpr ⟨st_L28 hG, List.forall_mem_cons.mpr ⟨st_L29 hG, List.forall_mem_cons.mpr ⟨st_L30 hG, List.forall_mem_cons.mpr ⟨st_L31 hG, List.forall_mem_cons.mpr ⟨st_LT hG, fun _ h => absurd h List.not_mem_nil⟩⟩⟩⟩⟩⟩⟩⟩⟩⟩⟩⟩⟩⟩⟩⟩⟩⟩⟩⟩⟩⟩⟩⟩⟩⟩⟩⟩⟩⟩⟩⟩⟩⟩
  intro x hx
  obtain ⟨l, h1, h2⟩ := List.mem_flatten.mp hx
  exact h l h1 x h2
theorem mm_L {L : Nat} {xs : Nat → Int32} {t : eTb} (j : Nat) (h : (tb_LL L xs)[j]? = some t) : ∀ x ∈ t, x ∈ tb_L L xs := fun x hx => List.mem_flatten.mpr ⟨t, List.mem_of_getElem? h, hx⟩
