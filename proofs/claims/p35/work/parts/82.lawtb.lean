/-! The law: its methods, tables and readings. By program (wip/p35/genlaw.py). Own work. -/
/-- a walk by a piece of the table -/
theorem e_walkS {tb1 tb2 : eTb} {stops : List Nat} {Qc : eQ} {Qx : eX} (hs : ∀ x ∈ tb1, x ∈ tb2) (n : Nat) {pc : Nat} {lc : List (Option eV)} {st : List eV} {S : eM} {bc bs : Nat} (h : e_go tb1 stops Qc Qx (e_Run tb2 Qc Qx) n pc lc st S bc bs) : e_Run tb2 Qc Qx pc lc st S bc bs := by
  intro Wp h1 h2
  have key : ∀ n pc lc st S bc bs, e_go tb1 stops Qc Qx (e_Run tb2 Qc Qx) n pc lc st S bc bs → Wp pc lc st S bc bs := by
    intro n
    induction n with
    | zero => exact fun pc lc st S bc bs h => h Wp h1 h2
    | succ n ih =>
      intro pc lc st S bc bs h
      unfold e_go at h
      cases hf : e_fd tb1 pc with
      | none => rw [hf] at h; exact h.elim
      | some T =>
        rw [hf] at h
        refine h1 _ (hs _ (e_fd_of hf)) _ (fun pc2 lc2 st2 S2 bc2 bs2 hk => ?_) lc st S bc bs h
        cases hz : e_mem stops pc2 with
        | true => rw [hz] at hk; exact hk Wp h1 h2
        | false => rw [hz] at hk; exact ih _ _ _ _ _ _ hk
  exact key n pc lc st S bc bs h
abbrev i_L_low : eI := (yL_low, cL_low, 2, (some .int), 0)
theorem cl_L_low : e_Cl i_L_low 2 := ⟨wd_873, wd_14, ⟨by decide, by decide⟩, by decide +kernel, by decide⟩
def tb_L_low : eTb := [(0, t_ldI 0 1 0), (1, t_push (.inl 2147483647) 2 1), (3, t_ii (fun a b => a &&& b) 3), (4, t_ldI 1 1 4), (5, t_idv (fun a b => a - a / b * b) 5), (6, t_jret)]
theorem st_L_low : ∀ x ∈ tb_L_low, e_Sd e_rf RL i_L_low x.1 x.2 :=
  e_more (s_iload_n (k := 0) (by decide +kernel) rfl) (
  e_more (s_ldc (i := 9) (v := 2147483647) (by decide +kernel) wd_874) (
  e_more (s_iand (by decide +kernel)) (
  e_more (s_iload_n (k := 1) (by decide +kernel) rfl) (
  e_more (s_irem (by decide +kernel)) (
  e_more (s_jret (by decide +kernel) rfl) (
  e_no_more))))))
def w_L_low : eW := e_rn tb_L_low (iL i_L_low) 0 0
theorem k_L_low : e_OK e_rf i_L_low 0 0 w_L_low := k_rn (own := RL) ⟨by decide +kernel, rfl⟩ st_L_low
abbrev i_L_isMarch : eI := (yL_isMarch, cL_isMarch, 8, (some .boolean), 11)
theorem cl_L_isMarch : e_Cl i_L_isMarch 2 := ⟨wd_825, wd_14, ⟨by decide, by decide⟩, by decide +kernel, by decide⟩
def tb_L_isMarch_0 : eTb := [(0, t_push (.inl 0) 1 0), (1, t_stI 2 1 1), (2, t_push (.inl 0) 1 2), (3, t_stI 3 1 3), (4, t_push (.inl 0) 1 4), (5, t_stI 4 2 5), (7, t_ldI 4 2 7), (9, t_push (.inl 4) 1 9), (10, t_ic (fun a b => b ≤ a) 156 10), (13, t_ldO 0 1 13), (14, t_ldI 1 1 14), (15, t_ldI 4 2 15), (17, t_push (.inl 3) 1 17), (18, t_call 4 1 6 nw_X4_part 18), (21, t_stI 5 2 21), (23, t_ldI 2 1 23), (24, t_ldI 5 2 24), (26, t_if (fun a => 0 ≤ a) 33 26), (29, t_push (.inl 1) 1 29), (30, t_goto 34), (33, t_push (.inl 0) 1 33), (34, t_ii (fun a b => a + b) 34), (35, t_stI 2 1 35), (36, t_ldI 5 2 36), (38, t_if (fun a => a < 0) 150 38), (41, t_ldO 0 1 41), (42, t_ldI 5 2 42), (44, t_push (.inl 4) 1 44), (45, t_call 3 1 6 nw_X4_pupilOf 45), (48, t_stI 6 2 48), (50, t_ldI 3 1 50), (51, t_ldI 5 2 51), (53, t_ii (fun a b => a >>> (b &&& 31)) 53), (54, t_push (.inl 1) 1 54), (55, t_ii (fun a b => a &&& b) 55), (56, t_ifn (fun a => a = 0) 133 56), (59, t_ldI 6 2 59), (61, t_if (fun a => a < 0) 133 61), (64, t_ldO 0 1 64), (65, t_ldI 6 2 65)]
theorem st_L_isMarch_0 : ∀ x ∈ tb_L_isMarch_0, e_Sd e_rf RL i_L_isMarch x.1 x.2 :=
  e_more (s_iconst (n := 0) (v := 0) (by decide +kernel) (by decide)) (
  e_more (s_istore_n (k := 2) (by decide +kernel) rfl (by decide)) (
  e_more (s_iconst (n := 0) (v := 0) (by decide +kernel) (by decide)) (
  e_more (s_istore_n (k := 3) (by decide +kernel) rfl (by decide)) (
  e_more (s_iconst (n := 0) (v := 0) (by decide +kernel) (by decide)) (
  e_more (s_istore (by decide +kernel) (by decide)) (
  e_more (s_iload (by decide +kernel)) (
  e_more (s_iconst (n := 4) (v := 4) (by decide +kernel) (by decide)) (
  e_more (s_ic_ge (off := 146) (by decide +kernel) (by decide)) (
  e_more (s_aload_n (k := 0) (by decide +kernel) rfl) (
  e_more (s_iload_n (k := 1) (by decide +kernel) rfl) (
  e_more (s_iload (by decide +kernel)) (
  e_more (s_iconst (n := 3) (v := 3) (by decide +kernel) (by decide)) (
  e_more (s_callV (c := 4) (idx := 33) nk_X4_part (by decide +kernel) cl_X4_part (by decide) rfl wd_401 wd_402 wd_403 (by decide) nr_X4_part) (
  e_more (s_istore (by decide +kernel) (by decide)) (
  e_more (s_iload_n (k := 2) (by decide +kernel) rfl) (
  e_more (s_iload (by decide +kernel)) (
  e_more (s_if_ge (off := 7) (by decide +kernel) (by decide)) (
  e_more (s_iconst (n := 1) (v := 1) (by decide +kernel) (by decide)) (
  e_more (s_goto (off := 4) (by decide +kernel) (by decide)) (
  e_more (s_iconst (n := 0) (v := 0) (by decide +kernel) (by decide)) (
  e_more (s_iadd (by decide +kernel)) (
  e_more (s_istore_n (k := 2) (by decide +kernel) rfl (by decide)) (
  e_more (s_iload (by decide +kernel)) (
  e_more (s_if_lt (off := 112) (by decide +kernel) (by decide)) (
  e_more (s_aload_n (k := 0) (by decide +kernel) rfl) (
  e_more (s_iload (by decide +kernel)) (
  e_more (s_iconst (n := 4) (v := 4) (by decide +kernel) (by decide)) (
  e_more (s_callV (c := 4) (idx := 37) nk_X4_pupilOf (by decide +kernel) cl_X4_pupilOf (by decide) rfl wd_769 wd_770 wd_771 (by decide) nr_X4_pupilOf) (
  e_more (s_istore (by decide +kernel) (by decide)) (
  e_more (s_iload_n (k := 3) (by decide +kernel) rfl) (
  e_more (s_iload (by decide +kernel)) (
  e_more (s_ishr (by decide +kernel)) (
  e_more (s_iconst (n := 1) (v := 1) (by decide +kernel) (by decide)) (
  e_more (s_iand (by decide +kernel)) (
  e_more (s_if_ne (off := 77) (by decide +kernel) (by decide)) (
  e_more (s_iload (by decide +kernel)) (
  e_more (s_if_lt (off := 72) (by decide +kernel) (by decide)) (
  e_more (s_aload_n (k := 0) (by decide +kernel) rfl) (
  e_more (s_iload (by decide +kernel)) (
  e_no_more))))))))))))))))))))))))))))))))))))))))
def tb_L_isMarch_1 : eTb := [(67, t_push (.inl 0) 1 67), (68, t_call 3 1 6 nw_X4_instrumentOf 68), (71, t_ldO 0 1 71), (72, t_ldI 1 1 72), (73, t_ldI 4 2 73), (75, t_push (.inl 0) 1 75), (76, t_call 4 1 6 nw_X4_part 76), (79, t_icn (fun a b => a = b) 133 79), (82, t_ldO 0 1 82), (83, t_ldI 6 2 83), (85, t_push (.inl 5) 1 85), (86, t_call 3 1 6 nw_X4_instrumentOf 86), (89, t_push (.inl 1) 1 89), (90, t_icn (fun a b => a = b) 133 90), (93, t_ldO 0 1 93), (94, t_ldI 5 2 94), (96, t_push (.inl 1) 1 96), (97, t_call 3 1 6 nw_X4_pupilOf 97), (100, t_ldO 0 1 100), (101, t_ldI 1 1 101), (102, t_ldI 4 2 102), (104, t_push (.inl 1) 1 104), (105, t_call 4 1 6 nw_X4_part 105), (108, t_ic (fun a b => a < b) 133 108), (111, t_ldO 0 1 111), (112, t_ldI 5 2 112), (114, t_push (.inl 2) 1 114), (115, t_call 3 1 6 nw_X4_pupilOf 115), (118, t_ldO 0 1 118), (119, t_ldI 1 1 119), (120, t_ldI 4 2 120), (122, t_push (.inl 2) 1 122), (123, t_call 4 1 6 nw_X4_part 123), (126, t_ic (fun a b => a < b) 133 126), (129, t_push (.inl 1) 1 129), (130, t_goto 134), (133, t_push (.inl 0) 1 133), (134, t_stI 7 2 134), (136, t_ldI 7 2 136), (138, t_ifn (fun a => a = 0) 143 138)]
theorem st_L_isMarch_1 : ∀ x ∈ tb_L_isMarch_1, e_Sd e_rf RL i_L_isMarch x.1 x.2 :=
  e_more (s_iconst (n := 0) (v := 0) (by decide +kernel) (by decide)) (
  e_more (s_callV (c := 4) (idx := 40) nk_X4_instrumentOf (by decide +kernel) cl_X4_instrumentOf (by decide) rfl wd_779 wd_780 wd_781 (by decide) nr_X4_instrumentOf) (
  e_more (s_aload_n (k := 0) (by decide +kernel) rfl) (
  e_more (s_iload_n (k := 1) (by decide +kernel) rfl) (
  e_more (s_iload (by decide +kernel)) (
  e_more (s_iconst (n := 0) (v := 0) (by decide +kernel) (by decide)) (
  e_more (s_callV (c := 4) (idx := 33) nk_X4_part (by decide +kernel) cl_X4_part (by decide) rfl wd_401 wd_402 wd_403 (by decide) nr_X4_part) (
  e_more (s_ic_ne (off := 54) (by decide +kernel) (by decide)) (
  e_more (s_aload_n (k := 0) (by decide +kernel) rfl) (
  e_more (s_iload (by decide +kernel)) (
  e_more (s_iconst (n := 5) (v := 5) (by decide +kernel) (by decide)) (
  e_more (s_callV (c := 4) (idx := 40) nk_X4_instrumentOf (by decide +kernel) cl_X4_instrumentOf (by decide) rfl wd_779 wd_780 wd_781 (by decide) nr_X4_instrumentOf) (
  e_more (s_iconst (n := 1) (v := 1) (by decide +kernel) (by decide)) (
  e_more (s_ic_ne (off := 43) (by decide +kernel) (by decide)) (
  e_more (s_aload_n (k := 0) (by decide +kernel) rfl) (
  e_more (s_iload (by decide +kernel)) (
  e_more (s_iconst (n := 1) (v := 1) (by decide +kernel) (by decide)) (
  e_more (s_callV (c := 4) (idx := 37) nk_X4_pupilOf (by decide +kernel) cl_X4_pupilOf (by decide) rfl wd_769 wd_770 wd_771 (by decide) nr_X4_pupilOf) (
  e_more (s_aload_n (k := 0) (by decide +kernel) rfl) (
  e_more (s_iload_n (k := 1) (by decide +kernel) rfl) (
  e_more (s_iload (by decide +kernel)) (
  e_more (s_iconst (n := 1) (v := 1) (by decide +kernel) (by decide)) (
  e_more (s_callV (c := 4) (idx := 33) nk_X4_part (by decide +kernel) cl_X4_part (by decide) rfl wd_401 wd_402 wd_403 (by decide) nr_X4_part) (
  e_more (s_ic_lt (off := 25) (by decide +kernel) (by decide)) (
  e_more (s_aload_n (k := 0) (by decide +kernel) rfl) (
  e_more (s_iload (by decide +kernel)) (
  e_more (s_iconst (n := 2) (v := 2) (by decide +kernel) (by decide)) (
  e_more (s_callV (c := 4) (idx := 37) nk_X4_pupilOf (by decide +kernel) cl_X4_pupilOf (by decide) rfl wd_769 wd_770 wd_771 (by decide) nr_X4_pupilOf) (
  e_more (s_aload_n (k := 0) (by decide +kernel) rfl) (
  e_more (s_iload_n (k := 1) (by decide +kernel) rfl) (
  e_more (s_iload (by decide +kernel)) (
  e_more (s_iconst (n := 2) (v := 2) (by decide +kernel) (by decide)) (
  e_more (s_callV (c := 4) (idx := 33) nk_X4_part (by decide +kernel) cl_X4_part (by decide) rfl wd_401 wd_402 wd_403 (by decide) nr_X4_part) (
  e_more (s_ic_lt (off := 7) (by decide +kernel) (by decide)) (
  e_more (s_iconst (n := 1) (v := 1) (by decide +kernel) (by decide)) (
  e_more (s_goto (off := 4) (by decide +kernel) (by decide)) (
  e_more (s_iconst (n := 0) (v := 0) (by decide +kernel) (by decide)) (
  e_more (s_istore (by decide +kernel) (by decide)) (
  e_more (s_iload (by decide +kernel)) (
  e_more (s_if_ne (off := 5) (by decide +kernel) (by decide)) (
  e_no_more))))))))))))))))))))))))))))))))))))))))
def tb_L_isMarch_2 : eTb := [(141, t_push (.inl 0) 1 141), (142, t_zret), (143, t_ldI 3 1 143), (144, t_push (.inl 1) 1 144), (145, t_ldI 5 2 145), (147, t_ii (fun a b => a <<< (b &&& 31)) 147), (148, t_ii (fun a b => a ||| b) 148), (149, t_stI 3 1 149), (150, t_iinc 4 1 150), (153, t_goto 7), (156, t_ldO 0 1 156), (157, t_ldI 1 1 157), (158, t_call 2 1 6 nw_X4_shortOf 158), (161, t_ldI 2 1 161), (162, t_icn (fun a b => a = b) 189 162), (165, t_ldO 0 1 165), (166, t_ldI 1 1 166), (167, t_call 2 1 6 nw_X4_most 167), (170, t_push (.inl 4) 1 170), (171, t_ldI 2 1 171), (172, t_ii (fun a b => a - b) 172), (173, t_ic (fun a b => a < b) 189 173), (176, t_ldO 0 1 176), (177, t_ldI 1 1 177), (178, t_call 2 1 6 nw_X4_most 178), (181, t_push (.inl 4) 1 181), (182, t_ic (fun a b => b < a) 189 182), (185, t_push (.inl 1) 1 185), (186, t_goto 190), (189, t_push (.inl 0) 1 189), (190, t_stI 4 2 190), (192, t_push (.inl 0) 1 192), (193, t_stI 5 2 193), (195, t_ldI 5 2 195), (197, t_push (.inl 23) 2 197), (199, t_ic (fun a b => b ≤ a) 232 199), (202, t_ldI 4 2 202), (204, t_if (fun a => a = 0) 223 204), (207, t_ldO 0 1 207), (208, t_ldI 1 1 208)]
theorem st_L_isMarch_2 : ∀ x ∈ tb_L_isMarch_2, e_Sd e_rf RL i_L_isMarch x.1 x.2 :=
  e_more (s_iconst (n := 0) (v := 0) (by decide +kernel) (by decide)) (
  e_more (s_zret (by decide +kernel) rfl) (
  e_more (s_iload_n (k := 3) (by decide +kernel) rfl) (
  e_more (s_iconst (n := 1) (v := 1) (by decide +kernel) (by decide)) (
  e_more (s_iload (by decide +kernel)) (
  e_more (s_ishl (by decide +kernel)) (
  e_more (s_ior (by decide +kernel)) (
  e_more (s_istore_n (k := 3) (by decide +kernel) rfl (by decide)) (
  e_more (s_iinc (z := 1) (n := 1) (by decide +kernel) (by decide) (by decide)) (
  e_more (s_goto (off := (-146)) (by decide +kernel) (by decide)) (
  e_more (s_aload_n (k := 0) (by decide +kernel) rfl) (
  e_more (s_iload_n (k := 1) (by decide +kernel) rfl) (
  e_more (s_callV (c := 4) (idx := 43) nk_X4_shortOf (by decide +kernel) cl_X4_shortOf (by decide) rfl wd_819 wd_820 wd_821 (by decide) nr_X4_shortOf) (
  e_more (s_iload_n (k := 2) (by decide +kernel) rfl) (
  e_more (s_ic_ne (off := 27) (by decide +kernel) (by decide)) (
  e_more (s_aload_n (k := 0) (by decide +kernel) rfl) (
  e_more (s_iload_n (k := 1) (by decide +kernel) rfl) (
  e_more (s_callV (c := 4) (idx := 46) nk_X4_most (by decide +kernel) cl_X4_most (by decide) rfl wd_250 wd_251 wd_252 (by decide) nr_X4_most) (
  e_more (s_iconst (n := 4) (v := 4) (by decide +kernel) (by decide)) (
  e_more (s_iload_n (k := 2) (by decide +kernel) rfl) (
  e_more (s_isub (by decide +kernel)) (
  e_more (s_ic_lt (off := 16) (by decide +kernel) (by decide)) (
  e_more (s_aload_n (k := 0) (by decide +kernel) rfl) (
  e_more (s_iload_n (k := 1) (by decide +kernel) rfl) (
  e_more (s_callV (c := 4) (idx := 46) nk_X4_most (by decide +kernel) cl_X4_most (by decide) rfl wd_250 wd_251 wd_252 (by decide) nr_X4_most) (
  e_more (s_iconst (n := 4) (v := 4) (by decide +kernel) (by decide)) (
  e_more (s_ic_gt (off := 7) (by decide +kernel) (by decide)) (
  e_more (s_iconst (n := 1) (v := 1) (by decide +kernel) (by decide)) (
  e_more (s_goto (off := 4) (by decide +kernel) (by decide)) (
  e_more (s_iconst (n := 0) (v := 0) (by decide +kernel) (by decide)) (
  e_more (s_istore (by decide +kernel) (by decide)) (
  e_more (s_iconst (n := 0) (v := 0) (by decide +kernel) (by decide)) (
  e_more (s_istore (by decide +kernel) (by decide)) (
  e_more (s_iload (by decide +kernel)) (
  e_more (s_bipush (n := 23) (v := 23) (by decide +kernel) (by decide)) (
  e_more (s_ic_ge (off := 33) (by decide +kernel) (by decide)) (
  e_more (s_iload (by decide +kernel)) (
  e_more (s_if_eq (off := 19) (by decide +kernel) (by decide)) (
  e_more (s_aload_n (k := 0) (by decide +kernel) rfl) (
  e_more (s_iload_n (k := 1) (by decide +kernel) rfl) (
  e_no_more))))))))))))))))))))))))))))))))))))))))
def tb_L_isMarch_3 : eTb := [(209, t_ldI 5 2 209), (211, t_call 3 16 1056 nw_X4_told 211), (214, t_push (.inl 32) 2 214), (216, t_ic (fun a b => a ≤ b) 223 216), (219, t_push (.inl 1) 1 219), (220, t_goto 224), (223, t_push (.inl 0) 1 223), (224, t_stI 4 2 224), (226, t_iinc 5 1 226), (229, t_goto 195), (232, t_push (.inl 0) 1 232), (233, t_stI 5 2 233), (235, t_ldI 5 2 235), (237, t_push (.inl 3) 1 237), (238, t_ic (fun a b => b ≤ a) 288 238), (241, t_ldO 0 1 241), (242, t_ldI 1 1 242), (243, t_ldI 5 2 243), (245, t_call 3 1 6 nw_X4_helps 245), (248, t_stI 6 2 248), (250, t_ldI 4 2 250), (252, t_if (fun a => a = 0) 279 252), (255, t_ldI 6 2 255), (257, t_if (fun a => a < 0) 275 257), (260, t_ldO 0 1 260), (261, t_ldI 6 2 261), (263, t_ldI 5 2 263), (265, t_call 3 1 6 nw_X4_noLesson 265), (268, t_ifn (fun a => a = 0) 279 268), (271, t_ldI 2 1 271), (272, t_if (fun a => a ≤ 0) 279 272), (275, t_push (.inl 1) 1 275), (276, t_goto 280), (279, t_push (.inl 0) 1 279), (280, t_stI 4 2 280), (282, t_iinc 5 1 282), (285, t_goto 235), (288, t_ldI 4 2 288), (290, t_if (fun a => a = 0) 308 290), (293, t_ldO 0 1 293)]
theorem st_L_isMarch_3 : ∀ x ∈ tb_L_isMarch_3, e_Sd e_rf RL i_L_isMarch x.1 x.2 :=
  e_more (s_iload (by decide +kernel)) (
  e_more (s_callV (c := 4) (idx := 49) nk_X4_told (by decide +kernel) cl_X4_told (by decide) rfl wd_430 wd_431 wd_432 (by decide) nr_X4_told) (
  e_more (s_bipush (n := 32) (v := 32) (by decide +kernel) (by decide)) (
  e_more (s_ic_le (off := 7) (by decide +kernel) (by decide)) (
  e_more (s_iconst (n := 1) (v := 1) (by decide +kernel) (by decide)) (
  e_more (s_goto (off := 4) (by decide +kernel) (by decide)) (
  e_more (s_iconst (n := 0) (v := 0) (by decide +kernel) (by decide)) (
  e_more (s_istore (by decide +kernel) (by decide)) (
  e_more (s_iinc (z := 1) (n := 1) (by decide +kernel) (by decide) (by decide)) (
  e_more (s_goto (off := (-34)) (by decide +kernel) (by decide)) (
  e_more (s_iconst (n := 0) (v := 0) (by decide +kernel) (by decide)) (
  e_more (s_istore (by decide +kernel) (by decide)) (
  e_more (s_iload (by decide +kernel)) (
  e_more (s_iconst (n := 3) (v := 3) (by decide +kernel) (by decide)) (
  e_more (s_ic_ge (off := 50) (by decide +kernel) (by decide)) (
  e_more (s_aload_n (k := 0) (by decide +kernel) rfl) (
  e_more (s_iload_n (k := 1) (by decide +kernel) rfl) (
  e_more (s_iload (by decide +kernel)) (
  e_more (s_callV (c := 4) (idx := 52) nk_X4_helps (by decide +kernel) cl_X4_helps (by decide) rfl wd_826 wd_827 wd_828 (by decide) nr_X4_helps) (
  e_more (s_istore (by decide +kernel) (by decide)) (
  e_more (s_iload (by decide +kernel)) (
  e_more (s_if_eq (off := 27) (by decide +kernel) (by decide)) (
  e_more (s_iload (by decide +kernel)) (
  e_more (s_if_lt (off := 18) (by decide +kernel) (by decide)) (
  e_more (s_aload_n (k := 0) (by decide +kernel) rfl) (
  e_more (s_iload (by decide +kernel)) (
  e_more (s_iload (by decide +kernel)) (
  e_more (s_callV (c := 4) (idx := 55) nk_X4_noLesson (by decide +kernel) cl_X4_noLesson (by decide) rfl wd_798 wd_799 wd_800 (by decide) nr_X4_noLesson) (
  e_more (s_if_ne (off := 11) (by decide +kernel) (by decide)) (
  e_more (s_iload_n (k := 2) (by decide +kernel) rfl) (
  e_more (s_if_le (off := 7) (by decide +kernel) (by decide)) (
  e_more (s_iconst (n := 1) (v := 1) (by decide +kernel) (by decide)) (
  e_more (s_goto (off := 4) (by decide +kernel) (by decide)) (
  e_more (s_iconst (n := 0) (v := 0) (by decide +kernel) (by decide)) (
  e_more (s_istore (by decide +kernel) (by decide)) (
  e_more (s_iinc (z := 1) (n := 1) (by decide +kernel) (by decide) (by decide)) (
  e_more (s_goto (off := (-50)) (by decide +kernel) (by decide)) (
  e_more (s_iload (by decide +kernel)) (
  e_more (s_if_eq (off := 18) (by decide +kernel) (by decide)) (
  e_more (s_aload_n (k := 0) (by decide +kernel) rfl) (
  e_no_more))))))))))))))))))))))))))))))))))))))))
def tb_L_isMarch_4 : eTb := [(294, t_ldI 1 1 294), (295, t_push (.inl 36) 2 295), (297, t_call 3 16 1056 nw_X4_told 297), (300, t_push (.inl (-1)) 1 300), (301, t_icn (fun a b => a = b) 308 301), (304, t_push (.inl 1) 1 304), (305, t_goto 309), (308, t_push (.inl 0) 1 308), (309, t_zret)]
theorem st_L_isMarch_4 : ∀ x ∈ tb_L_isMarch_4, e_Sd e_rf RL i_L_isMarch x.1 x.2 :=
  e_more (s_iload_n (k := 1) (by decide +kernel) rfl) (
  e_more (s_bipush (n := 36) (v := 36) (by decide +kernel) (by decide)) (
  e_more (s_callV (c := 4) (idx := 49) nk_X4_told (by decide +kernel) cl_X4_told (by decide) rfl wd_430 wd_431 wd_432 (by decide) nr_X4_told) (
  e_more (s_iconst (n := (-1)) (v := (-1)) (by decide +kernel) (by decide)) (
  e_more (s_ic_ne (off := 7) (by decide +kernel) (by decide)) (
  e_more (s_iconst (n := 1) (v := 1) (by decide +kernel) (by decide)) (
  e_more (s_goto (off := 4) (by decide +kernel) (by decide)) (
  e_more (s_iconst (n := 0) (v := 0) (by decide +kernel) (by decide)) (
  e_more (s_zret (by decide +kernel) rfl) (
  e_no_more)))))))))
def tb_L_isMarch : eTb := tb_L_isMarch_0 ++ tb_L_isMarch_1 ++ tb_L_isMarch_2 ++ tb_L_isMarch_3 ++ tb_L_isMarch_4
theorem st_L_isMarch : ∀ x ∈ tb_L_isMarch, e_Sd e_rf RL i_L_isMarch x.1 x.2 := e_app (e_app (e_app (e_app (st_L_isMarch_0) st_L_isMarch_1) st_L_isMarch_2) st_L_isMarch_3) st_L_isMarch_4
def w_L_isMarch : eW := e_rn tb_L_isMarch (iL i_L_isMarch) 429 25614
theorem k_L_isMarch : e_OK e_rf i_L_isMarch 429 25614 w_L_isMarch := k_rn (own := RL) ⟨by decide +kernel, rfl⟩ st_L_isMarch
abbrev i_L_isText : eI := (yL_isText, cL_isText, 7, (some .boolean), 11)
theorem cl_L_isText : e_Cl i_L_isText 2 := ⟨wd_400, wd_14, ⟨by decide, by decide⟩, by decide +kernel, by decide⟩
def tb_L_isText_0 : eTb := [(0, t_push (.inl 0) 1 0), (1, t_stI 2 1 1), (2, t_push (.inl 0) 1 2), (3, t_stI 3 1 3), (4, t_ldI 3 1 4), (5, t_push (.inl 4) 1 5), (6, t_ic (fun a b => b ≤ a) 166 6), (9, t_ldO 0 1 9), (10, t_ldI 1 1 10), (11, t_ldI 3 1 11), (12, t_push (.inl 0) 1 12), (13, t_call 4 1 6 nw_X4_part 13), (16, t_stI 4 2 16), (18, t_ldO 0 1 18), (19, t_ldI 1 1 19), (20, t_ldI 3 1 20), (21, t_push (.inl 3) 1 21), (22, t_call 4 1 6 nw_X4_part 22), (25, t_stI 5 2 25), (27, t_ldI 4 2 27), (29, t_ifn (fun a => a = 0) 37 29), (32, t_push (.inl 99) 2 32), (34, t_goto 61), (37, t_ldI 4 2 37), (39, t_push (.inl 1) 1 39), (40, t_icn (fun a b => a = b) 48 40), (43, t_push (.inl 104) 2 43), (45, t_goto 61), (48, t_ldI 4 2 48), (50, t_push (.inl 2) 1 50), (51, t_icn (fun a b => a = b) 59 51), (54, t_push (.inl 98) 2 54), (56, t_goto 61), (59, t_push (.inl 116) 2 59), (61, t_stI 6 2 61), (63, t_ldO 0 1 63), (64, t_ldI 1 1 64), (65, t_ldI 2 1 65), (66, t_call 3 16 1056 nw_X4_told 66), (69, t_ldI 6 2 69)]
theorem st_L_isText_0 : ∀ x ∈ tb_L_isText_0, e_Sd e_rf RL i_L_isText x.1 x.2 :=
  e_more (s_iconst (n := 0) (v := 0) (by decide +kernel) (by decide)) (
  e_more (s_istore_n (k := 2) (by decide +kernel) rfl (by decide)) (
  e_more (s_iconst (n := 0) (v := 0) (by decide +kernel) (by decide)) (
  e_more (s_istore_n (k := 3) (by decide +kernel) rfl (by decide)) (
  e_more (s_iload_n (k := 3) (by decide +kernel) rfl) (
  e_more (s_iconst (n := 4) (v := 4) (by decide +kernel) (by decide)) (
  e_more (s_ic_ge (off := 160) (by decide +kernel) (by decide)) (
  e_more (s_aload_n (k := 0) (by decide +kernel) rfl) (
  e_more (s_iload_n (k := 1) (by decide +kernel) rfl) (
  e_more (s_iload_n (k := 3) (by decide +kernel) rfl) (
  e_more (s_iconst (n := 0) (v := 0) (by decide +kernel) (by decide)) (
  e_more (s_callV (c := 4) (idx := 33) nk_X4_part (by decide +kernel) cl_X4_part (by decide) rfl wd_401 wd_402 wd_403 (by decide) nr_X4_part) (
  e_more (s_istore (by decide +kernel) (by decide)) (
  e_more (s_aload_n (k := 0) (by decide +kernel) rfl) (
  e_more (s_iload_n (k := 1) (by decide +kernel) rfl) (
  e_more (s_iload_n (k := 3) (by decide +kernel) rfl) (
  e_more (s_iconst (n := 3) (v := 3) (by decide +kernel) (by decide)) (
  e_more (s_callV (c := 4) (idx := 33) nk_X4_part (by decide +kernel) cl_X4_part (by decide) rfl wd_401 wd_402 wd_403 (by decide) nr_X4_part) (
  e_more (s_istore (by decide +kernel) (by decide)) (
  e_more (s_iload (by decide +kernel)) (
  e_more (s_if_ne (off := 8) (by decide +kernel) (by decide)) (
  e_more (s_bipush (n := 99) (v := 99) (by decide +kernel) (by decide)) (
  e_more (s_goto (off := 27) (by decide +kernel) (by decide)) (
  e_more (s_iload (by decide +kernel)) (
  e_more (s_iconst (n := 1) (v := 1) (by decide +kernel) (by decide)) (
  e_more (s_ic_ne (off := 8) (by decide +kernel) (by decide)) (
  e_more (s_bipush (n := 104) (v := 104) (by decide +kernel) (by decide)) (
  e_more (s_goto (off := 16) (by decide +kernel) (by decide)) (
  e_more (s_iload (by decide +kernel)) (
  e_more (s_iconst (n := 2) (v := 2) (by decide +kernel) (by decide)) (
  e_more (s_ic_ne (off := 8) (by decide +kernel) (by decide)) (
  e_more (s_bipush (n := 98) (v := 98) (by decide +kernel) (by decide)) (
  e_more (s_goto (off := 5) (by decide +kernel) (by decide)) (
  e_more (s_bipush (n := 116) (v := 116) (by decide +kernel) (by decide)) (
  e_more (s_istore (by decide +kernel) (by decide)) (
  e_more (s_aload_n (k := 0) (by decide +kernel) rfl) (
  e_more (s_iload_n (k := 1) (by decide +kernel) rfl) (
  e_more (s_iload_n (k := 2) (by decide +kernel) rfl) (
  e_more (s_callV (c := 4) (idx := 49) nk_X4_told (by decide +kernel) cl_X4_told (by decide) rfl wd_430 wd_431 wd_432 (by decide) nr_X4_told) (
  e_more (s_iload (by decide +kernel)) (
  e_no_more))))))))))))))))))))))))))))))))))))))))
def tb_L_isText_1 : eTb := [(71, t_icn (fun a b => a = b) 91 71), (74, t_ldI 3 1 74), (75, t_if (fun a => a ≤ 0) 93 75), (78, t_ldO 0 1 78), (79, t_ldI 1 1 79), (80, t_ldI 2 1 80), (81, t_push (.inl 1) 1 81), (82, t_ii (fun a b => a - b) 82), (83, t_call 3 16 1056 nw_X4_told 83), (86, t_push (.inl 44) 2 86), (88, t_ic (fun a b => a = b) 93 88), (91, t_push (.inl 0) 1 91), (92, t_zret), (93, t_ldI 2 1 93), (94, t_ldI 4 2 94), (96, t_ifn (fun a => a = 0) 104 96), (99, t_push (.inl 6) 2 99), (101, t_goto 116), (104, t_ldI 4 2 104), (106, t_push (.inl 2) 1 106), (107, t_icn (fun a b => a = b) 115 107), (110, t_push (.inl 8) 2 110), (112, t_goto 116), (115, t_push (.inl 4) 1 115), (116, t_ii (fun a b => a + b) 116), (117, t_stI 2 1 117), (118, t_ldO 0 1 118), (119, t_ldI 1 1 119), (120, t_ldI 2 1 120), (121, t_call 3 16 1056 nw_X4_told 121), (124, t_push (.inl 58) 2 124), (126, t_icn (fun a b => a = b) 155 126), (129, t_ldO 0 1 129), (130, t_ldI 1 1 130), (131, t_ldI 2 1 131), (132, t_push (.inl 1) 1 132), (133, t_ii (fun a b => a + b) 133), (134, t_call 3 16 1056 nw_X4_told 134), (137, t_ldI 5 2 137), (139, t_if (fun a => 0 ≤ a) 147 139)]
theorem st_L_isText_1 : ∀ x ∈ tb_L_isText_1, e_Sd e_rf RL i_L_isText x.1 x.2 :=
  e_more (s_ic_ne (off := 20) (by decide +kernel) (by decide)) (
  e_more (s_iload_n (k := 3) (by decide +kernel) rfl) (
  e_more (s_if_le (off := 18) (by decide +kernel) (by decide)) (
  e_more (s_aload_n (k := 0) (by decide +kernel) rfl) (
  e_more (s_iload_n (k := 1) (by decide +kernel) rfl) (
  e_more (s_iload_n (k := 2) (by decide +kernel) rfl) (
  e_more (s_iconst (n := 1) (v := 1) (by decide +kernel) (by decide)) (
  e_more (s_isub (by decide +kernel)) (
  e_more (s_callV (c := 4) (idx := 49) nk_X4_told (by decide +kernel) cl_X4_told (by decide) rfl wd_430 wd_431 wd_432 (by decide) nr_X4_told) (
  e_more (s_bipush (n := 44) (v := 44) (by decide +kernel) (by decide)) (
  e_more (s_ic_eq (off := 5) (by decide +kernel) (by decide)) (
  e_more (s_iconst (n := 0) (v := 0) (by decide +kernel) (by decide)) (
  e_more (s_zret (by decide +kernel) rfl) (
  e_more (s_iload_n (k := 2) (by decide +kernel) rfl) (
  e_more (s_iload (by decide +kernel)) (
  e_more (s_if_ne (off := 8) (by decide +kernel) (by decide)) (
  e_more (s_bipush (n := 6) (v := 6) (by decide +kernel) (by decide)) (
  e_more (s_goto (off := 15) (by decide +kernel) (by decide)) (
  e_more (s_iload (by decide +kernel)) (
  e_more (s_iconst (n := 2) (v := 2) (by decide +kernel) (by decide)) (
  e_more (s_ic_ne (off := 8) (by decide +kernel) (by decide)) (
  e_more (s_bipush (n := 8) (v := 8) (by decide +kernel) (by decide)) (
  e_more (s_goto (off := 4) (by decide +kernel) (by decide)) (
  e_more (s_iconst (n := 4) (v := 4) (by decide +kernel) (by decide)) (
  e_more (s_iadd (by decide +kernel)) (
  e_more (s_istore_n (k := 2) (by decide +kernel) rfl (by decide)) (
  e_more (s_aload_n (k := 0) (by decide +kernel) rfl) (
  e_more (s_iload_n (k := 1) (by decide +kernel) rfl) (
  e_more (s_iload_n (k := 2) (by decide +kernel) rfl) (
  e_more (s_callV (c := 4) (idx := 49) nk_X4_told (by decide +kernel) cl_X4_told (by decide) rfl wd_430 wd_431 wd_432 (by decide) nr_X4_told) (
  e_more (s_bipush (n := 58) (v := 58) (by decide +kernel) (by decide)) (
  e_more (s_ic_ne (off := 29) (by decide +kernel) (by decide)) (
  e_more (s_aload_n (k := 0) (by decide +kernel) rfl) (
  e_more (s_iload_n (k := 1) (by decide +kernel) rfl) (
  e_more (s_iload_n (k := 2) (by decide +kernel) rfl) (
  e_more (s_iconst (n := 1) (v := 1) (by decide +kernel) (by decide)) (
  e_more (s_iadd (by decide +kernel)) (
  e_more (s_callV (c := 4) (idx := 49) nk_X4_told (by decide +kernel) cl_X4_told (by decide) rfl wd_430 wd_431 wd_432 (by decide) nr_X4_told) (
  e_more (s_iload (by decide +kernel)) (
  e_more (s_if_ge (off := 8) (by decide +kernel) (by decide)) (
  e_no_more))))))))))))))))))))))))))))))))))))))))
def tb_L_isText_2 : eTb := [(142, t_push (.inl 45) 2 142), (144, t_goto 152), (147, t_push (.inl 48) 2 147), (149, t_ldI 5 2 149), (151, t_ii (fun a b => a + b) 151), (152, t_ic (fun a b => a = b) 157 152), (155, t_push (.inl 0) 1 155), (156, t_zret), (157, t_iinc 2 3 157), (160, t_iinc 3 1 160), (163, t_goto 4), (166, t_ldO 0 1 166), (167, t_ldI 1 1 167), (168, t_ldI 2 1 168), (169, t_push (.inl 1) 1 169), (170, t_ii (fun a b => a - b) 170), (171, t_call 3 16 1056 nw_X4_told 171), (174, t_push (.inl (-1)) 1 174), (175, t_icn (fun a b => a = b) 192 175), (178, t_ldO 0 1 178), (179, t_ldI 1 1 179), (180, t_ldI 2 1 180), (181, t_call 3 16 1056 nw_X4_told 181), (184, t_push (.inl (-1)) 1 184), (185, t_icn (fun a b => a = b) 192 185), (188, t_push (.inl 1) 1 188), (189, t_goto 193), (192, t_push (.inl 0) 1 192), (193, t_zret)]
theorem st_L_isText_2 : ∀ x ∈ tb_L_isText_2, e_Sd e_rf RL i_L_isText x.1 x.2 :=
  e_more (s_bipush (n := 45) (v := 45) (by decide +kernel) (by decide)) (
  e_more (s_goto (off := 8) (by decide +kernel) (by decide)) (
  e_more (s_bipush (n := 48) (v := 48) (by decide +kernel) (by decide)) (
  e_more (s_iload (by decide +kernel)) (
  e_more (s_iadd (by decide +kernel)) (
  e_more (s_ic_eq (off := 5) (by decide +kernel) (by decide)) (
  e_more (s_iconst (n := 0) (v := 0) (by decide +kernel) (by decide)) (
  e_more (s_zret (by decide +kernel) rfl) (
  e_more (s_iinc (z := 3) (n := 3) (by decide +kernel) (by decide) (by decide)) (
  e_more (s_iinc (z := 1) (n := 1) (by decide +kernel) (by decide) (by decide)) (
  e_more (s_goto (off := (-159)) (by decide +kernel) (by decide)) (
  e_more (s_aload_n (k := 0) (by decide +kernel) rfl) (
  e_more (s_iload_n (k := 1) (by decide +kernel) rfl) (
  e_more (s_iload_n (k := 2) (by decide +kernel) rfl) (
  e_more (s_iconst (n := 1) (v := 1) (by decide +kernel) (by decide)) (
  e_more (s_isub (by decide +kernel)) (
  e_more (s_callV (c := 4) (idx := 49) nk_X4_told (by decide +kernel) cl_X4_told (by decide) rfl wd_430 wd_431 wd_432 (by decide) nr_X4_told) (
  e_more (s_iconst (n := (-1)) (v := (-1)) (by decide +kernel) (by decide)) (
  e_more (s_ic_ne (off := 17) (by decide +kernel) (by decide)) (
  e_more (s_aload_n (k := 0) (by decide +kernel) rfl) (
  e_more (s_iload_n (k := 1) (by decide +kernel) rfl) (
  e_more (s_iload_n (k := 2) (by decide +kernel) rfl) (
  e_more (s_callV (c := 4) (idx := 49) nk_X4_told (by decide +kernel) cl_X4_told (by decide) rfl wd_430 wd_431 wd_432 (by decide) nr_X4_told) (
  e_more (s_iconst (n := (-1)) (v := (-1)) (by decide +kernel) (by decide)) (
  e_more (s_ic_ne (off := 7) (by decide +kernel) (by decide)) (
  e_more (s_iconst (n := 1) (v := 1) (by decide +kernel) (by decide)) (
  e_more (s_goto (off := 4) (by decide +kernel) (by decide)) (
  e_more (s_iconst (n := 0) (v := 0) (by decide +kernel) (by decide)) (
  e_more (s_zret (by decide +kernel) rfl) (
  e_no_more)))))))))))))))))))))))))))))
def tb_L_isText : eTb := tb_L_isText_0 ++ tb_L_isText_1 ++ tb_L_isText_2
theorem st_L_isText : ∀ x ∈ tb_L_isText, e_Sd e_rf RL i_L_isText x.1 x.2 := e_app (e_app (st_L_isText_0) st_L_isText_1) st_L_isText_2
def w_L_isText : eW := e_rn tb_L_isText (iL i_L_isText) 296 19056
theorem k_L_isText : e_OK e_rf i_L_isText 296 19056 w_L_isText := k_rn (own := RL) ⟨by decide +kernel, rfl⟩ st_L_isText
abbrev i_L_areTools : eI := (yL_areTools, cL_areTools, 8, (some .boolean), 11)
theorem cl_L_areTools : e_Cl i_L_areTools 1 := ⟨wd_847, wd_14, ⟨by decide, by decide⟩, by decide +kernel, by decide⟩
def tb_L_areTools_0 : eTb := [(0, t_push (.inl 0) 1 0), (1, t_stI 1 1 1), (2, t_push (.inl 0) 1 2), (3, t_stI 2 1 3), (4, t_push (.inl 0) 1 4), (5, t_stI 3 1 5), (6, t_ldI 3 1 6), (7, t_ldO 0 1 7), (8, t_push (.inl 1) 1 8), (9, t_call 2 1 6 nw_X4_count 9), (12, t_ic (fun a b => b ≤ a) 236 12), (15, t_ldO 0 1 15), (16, t_ldI 3 1 16), (17, t_push (.inl 2) 1 17), (18, t_call 3 1 6 nw_X4_instrumentOf 18), (21, t_stI 4 2 21), (23, t_ldO 0 1 23), (24, t_ldI 3 1 24), (25, t_push (.inl 4) 1 25), (26, t_call 3 1 6 nw_X4_instrumentOf 26), (29, t_stI 5 2 29), (31, t_ldI 1 1 31), (32, t_ldI 4 2 32), (34, t_if (fun a => a < 0) 41 34), (37, t_push (.inl 1) 1 37), (38, t_goto 42), (41, t_push (.inl 0) 1 41), (42, t_ii (fun a b => a + b) 42), (43, t_stI 1 1 43), (44, t_ldI 2 1 44), (45, t_ldO 0 1 45), (46, t_ldI 3 1 46), (47, t_push (.inl 3) 1 47), (48, t_call 3 1 6 nw_X4_instrumentOf 48), (51, t_ii (fun a b => a + b) 51), (52, t_stI 2 1 52), (53, t_ldO 0 1 53), (54, t_ldI 3 1 54), (55, t_push (.inl 1) 1 55), (56, t_call 3 1 6 nw_X4_instrumentOf 56)]
theorem st_L_areTools_0 : ∀ x ∈ tb_L_areTools_0, e_Sd e_rf RL i_L_areTools x.1 x.2 :=
  e_more (s_iconst (n := 0) (v := 0) (by decide +kernel) (by decide)) (
  e_more (s_istore_n (k := 1) (by decide +kernel) rfl (by decide)) (
  e_more (s_iconst (n := 0) (v := 0) (by decide +kernel) (by decide)) (
  e_more (s_istore_n (k := 2) (by decide +kernel) rfl (by decide)) (
  e_more (s_iconst (n := 0) (v := 0) (by decide +kernel) (by decide)) (
  e_more (s_istore_n (k := 3) (by decide +kernel) rfl (by decide)) (
  e_more (s_iload_n (k := 3) (by decide +kernel) rfl) (
  e_more (s_aload_n (k := 0) (by decide +kernel) rfl) (
  e_more (s_iconst (n := 1) (v := 1) (by decide +kernel) (by decide)) (
  e_more (s_callV (c := 4) (idx := 58) nk_X4_count (by decide +kernel) cl_X4_count (by decide) rfl wd_746 wd_747 wd_748 (by decide) nr_X4_count) (
  e_more (s_ic_ge (off := 224) (by decide +kernel) (by decide)) (
  e_more (s_aload_n (k := 0) (by decide +kernel) rfl) (
  e_more (s_iload_n (k := 3) (by decide +kernel) rfl) (
  e_more (s_iconst (n := 2) (v := 2) (by decide +kernel) (by decide)) (
  e_more (s_callV (c := 4) (idx := 40) nk_X4_instrumentOf (by decide +kernel) cl_X4_instrumentOf (by decide) rfl wd_779 wd_780 wd_781 (by decide) nr_X4_instrumentOf) (
  e_more (s_istore (by decide +kernel) (by decide)) (
  e_more (s_aload_n (k := 0) (by decide +kernel) rfl) (
  e_more (s_iload_n (k := 3) (by decide +kernel) rfl) (
  e_more (s_iconst (n := 4) (v := 4) (by decide +kernel) (by decide)) (
  e_more (s_callV (c := 4) (idx := 40) nk_X4_instrumentOf (by decide +kernel) cl_X4_instrumentOf (by decide) rfl wd_779 wd_780 wd_781 (by decide) nr_X4_instrumentOf) (
  e_more (s_istore (by decide +kernel) (by decide)) (
  e_more (s_iload_n (k := 1) (by decide +kernel) rfl) (
  e_more (s_iload (by decide +kernel)) (
  e_more (s_if_lt (off := 7) (by decide +kernel) (by decide)) (
  e_more (s_iconst (n := 1) (v := 1) (by decide +kernel) (by decide)) (
  e_more (s_goto (off := 4) (by decide +kernel) (by decide)) (
  e_more (s_iconst (n := 0) (v := 0) (by decide +kernel) (by decide)) (
  e_more (s_iadd (by decide +kernel)) (
  e_more (s_istore_n (k := 1) (by decide +kernel) rfl (by decide)) (
  e_more (s_iload_n (k := 2) (by decide +kernel) rfl) (
  e_more (s_aload_n (k := 0) (by decide +kernel) rfl) (
  e_more (s_iload_n (k := 3) (by decide +kernel) rfl) (
  e_more (s_iconst (n := 3) (v := 3) (by decide +kernel) (by decide)) (
  e_more (s_callV (c := 4) (idx := 40) nk_X4_instrumentOf (by decide +kernel) cl_X4_instrumentOf (by decide) rfl wd_779 wd_780 wd_781 (by decide) nr_X4_instrumentOf) (
  e_more (s_iadd (by decide +kernel)) (
  e_more (s_istore_n (k := 2) (by decide +kernel) rfl (by decide)) (
  e_more (s_aload_n (k := 0) (by decide +kernel) rfl) (
  e_more (s_iload_n (k := 3) (by decide +kernel) rfl) (
  e_more (s_iconst (n := 1) (v := 1) (by decide +kernel) (by decide)) (
  e_more (s_callV (c := 4) (idx := 40) nk_X4_instrumentOf (by decide +kernel) cl_X4_instrumentOf (by decide) rfl wd_779 wd_780 wd_781 (by decide) nr_X4_instrumentOf) (
  e_no_more))))))))))))))))))))))))))))))))))))))))
def tb_L_areTools_1 : eTb := [(59, t_if (fun a => a < 0) 160 59), (62, t_ldO 0 1 62), (63, t_ldI 3 1 63), (64, t_push (.inl 1) 1 64), (65, t_call 3 1 6 nw_X4_instrumentOf 65), (68, t_push (.inl 9) 2 68), (70, t_ic (fun a b => b < a) 160 70), (73, t_ldI 5 2 73), (75, t_if (fun a => 0 ≤ a) 82 75), (78, t_push (.inl 1) 1 78), (79, t_goto 83), (82, t_push (.inl 0) 1 82), (83, t_ldI 4 2 83), (85, t_if (fun a => 0 ≤ a) 92 85), (88, t_push (.inl 1) 1 88), (89, t_goto 93), (92, t_push (.inl 0) 1 92), (93, t_icn (fun a b => a = b) 160 93), (96, t_ldI 5 2 96), (98, t_ldO 0 1 98), (99, t_ldI 3 1 99), (100, t_push (.inl 1) 1 100), (101, t_call 3 1 6 nw_X4_instrumentOf 101), (104, t_ic (fun a b => b < a) 160 104), (107, t_ldO 0 1 107), (108, t_ldI 3 1 108), (109, t_push (.inl 5) 1 109), (110, t_call 3 1 6 nw_X4_instrumentOf 110), (113, t_push (.inl 1) 1 113), (114, t_icn (fun a b => a = b) 121 114), (117, t_push (.inl 1) 1 117), (118, t_goto 122), (121, t_push (.inl 0) 1 121), (122, t_ldO 0 1 122), (123, t_ldI 3 1 123), (124, t_push (.inl 1) 1 124), (125, t_call 3 1 6 nw_X4_instrumentOf 125), (128, t_push (.inl 5) 1 128), (129, t_ic (fun a b => b ≤ a) 136 129), (132, t_push (.inl 1) 1 132)]
theorem st_L_areTools_1 : ∀ x ∈ tb_L_areTools_1, e_Sd e_rf RL i_L_areTools x.1 x.2 :=
  e_more (s_if_lt (off := 101) (by decide +kernel) (by decide)) (
  e_more (s_aload_n (k := 0) (by decide +kernel) rfl) (
  e_more (s_iload_n (k := 3) (by decide +kernel) rfl) (
  e_more (s_iconst (n := 1) (v := 1) (by decide +kernel) (by decide)) (
  e_more (s_callV (c := 4) (idx := 40) nk_X4_instrumentOf (by decide +kernel) cl_X4_instrumentOf (by decide) rfl wd_779 wd_780 wd_781 (by decide) nr_X4_instrumentOf) (
  e_more (s_bipush (n := 9) (v := 9) (by decide +kernel) (by decide)) (
  e_more (s_ic_gt (off := 90) (by decide +kernel) (by decide)) (
  e_more (s_iload (by decide +kernel)) (
  e_more (s_if_ge (off := 7) (by decide +kernel) (by decide)) (
  e_more (s_iconst (n := 1) (v := 1) (by decide +kernel) (by decide)) (
  e_more (s_goto (off := 4) (by decide +kernel) (by decide)) (
  e_more (s_iconst (n := 0) (v := 0) (by decide +kernel) (by decide)) (
  e_more (s_iload (by decide +kernel)) (
  e_more (s_if_ge (off := 7) (by decide +kernel) (by decide)) (
  e_more (s_iconst (n := 1) (v := 1) (by decide +kernel) (by decide)) (
  e_more (s_goto (off := 4) (by decide +kernel) (by decide)) (
  e_more (s_iconst (n := 0) (v := 0) (by decide +kernel) (by decide)) (
  e_more (s_ic_ne (off := 67) (by decide +kernel) (by decide)) (
  e_more (s_iload (by decide +kernel)) (
  e_more (s_aload_n (k := 0) (by decide +kernel) rfl) (
  e_more (s_iload_n (k := 3) (by decide +kernel) rfl) (
  e_more (s_iconst (n := 1) (v := 1) (by decide +kernel) (by decide)) (
  e_more (s_callV (c := 4) (idx := 40) nk_X4_instrumentOf (by decide +kernel) cl_X4_instrumentOf (by decide) rfl wd_779 wd_780 wd_781 (by decide) nr_X4_instrumentOf) (
  e_more (s_ic_gt (off := 56) (by decide +kernel) (by decide)) (
  e_more (s_aload_n (k := 0) (by decide +kernel) rfl) (
  e_more (s_iload_n (k := 3) (by decide +kernel) rfl) (
  e_more (s_iconst (n := 5) (v := 5) (by decide +kernel) (by decide)) (
  e_more (s_callV (c := 4) (idx := 40) nk_X4_instrumentOf (by decide +kernel) cl_X4_instrumentOf (by decide) rfl wd_779 wd_780 wd_781 (by decide) nr_X4_instrumentOf) (
  e_more (s_iconst (n := 1) (v := 1) (by decide +kernel) (by decide)) (
  e_more (s_ic_ne (off := 7) (by decide +kernel) (by decide)) (
  e_more (s_iconst (n := 1) (v := 1) (by decide +kernel) (by decide)) (
  e_more (s_goto (off := 4) (by decide +kernel) (by decide)) (
  e_more (s_iconst (n := 0) (v := 0) (by decide +kernel) (by decide)) (
  e_more (s_aload_n (k := 0) (by decide +kernel) rfl) (
  e_more (s_iload_n (k := 3) (by decide +kernel) rfl) (
  e_more (s_iconst (n := 1) (v := 1) (by decide +kernel) (by decide)) (
  e_more (s_callV (c := 4) (idx := 40) nk_X4_instrumentOf (by decide +kernel) cl_X4_instrumentOf (by decide) rfl wd_779 wd_780 wd_781 (by decide) nr_X4_instrumentOf) (
  e_more (s_iconst (n := 5) (v := 5) (by decide +kernel) (by decide)) (
  e_more (s_ic_ge (off := 7) (by decide +kernel) (by decide)) (
  e_more (s_iconst (n := 1) (v := 1) (by decide +kernel) (by decide)) (
  e_no_more))))))))))))))))))))))))))))))))))))))))
def tb_L_areTools_2 : eTb := [(133, t_goto 137), (136, t_push (.inl 0) 1 136), (137, t_icn (fun a b => a = b) 160 137), (140, t_ldI 4 2 140), (142, t_if (fun a => a < 0) 156 142), (145, t_ldO 0 1 145), (146, t_ldI 4 2 146), (148, t_push (.inl 4) 1 148), (149, t_call 3 1 6 nw_X4_pupilOf 149), (152, t_ldI 3 1 152), (153, t_icn (fun a b => a = b) 160 153), (156, t_push (.inl 1) 1 156), (157, t_goto 161), (160, t_push (.inl 0) 1 160), (161, t_stI 6 2 161), (163, t_push (.inl 0) 1 163), (164, t_stI 7 2 164), (166, t_ldI 7 2 166), (168, t_ldO 0 1 168), (169, t_push (.inl 0) 1 169), (170, t_call 2 1 6 nw_X4_count 170), (173, t_ic (fun a b => b ≤ a) 223 173), (176, t_ldI 6 2 176), (178, t_if (fun a => a = 0) 223 178), (181, t_ldO 0 1 181), (182, t_ldI 3 1 182), (183, t_ldI 7 2 183), (185, t_call 3 1 6 nw_X4_noLoan 185), (188, t_push (.inl 1) 1 188), (189, t_icn (fun a b => a = b) 196 189), (192, t_push (.inl 1) 1 192), (193, t_goto 197), (196, t_push (.inl 0) 1 196), (197, t_ldI 4 2 197), (199, t_if (fun a => a < 0) 206 199), (202, t_push (.inl 1) 1 202), (203, t_goto 207), (206, t_push (.inl 0) 1 206), (207, t_icn (fun a b => a = b) 214 207), (210, t_push (.inl 1) 1 210)]
theorem st_L_areTools_2 : ∀ x ∈ tb_L_areTools_2, e_Sd e_rf RL i_L_areTools x.1 x.2 :=
  e_more (s_goto (off := 4) (by decide +kernel) (by decide)) (
  e_more (s_iconst (n := 0) (v := 0) (by decide +kernel) (by decide)) (
  e_more (s_ic_ne (off := 23) (by decide +kernel) (by decide)) (
  e_more (s_iload (by decide +kernel)) (
  e_more (s_if_lt (off := 14) (by decide +kernel) (by decide)) (
  e_more (s_aload_n (k := 0) (by decide +kernel) rfl) (
  e_more (s_iload (by decide +kernel)) (
  e_more (s_iconst (n := 4) (v := 4) (by decide +kernel) (by decide)) (
  e_more (s_callV (c := 4) (idx := 37) nk_X4_pupilOf (by decide +kernel) cl_X4_pupilOf (by decide) rfl wd_769 wd_770 wd_771 (by decide) nr_X4_pupilOf) (
  e_more (s_iload_n (k := 3) (by decide +kernel) rfl) (
  e_more (s_ic_ne (off := 7) (by decide +kernel) (by decide)) (
  e_more (s_iconst (n := 1) (v := 1) (by decide +kernel) (by decide)) (
  e_more (s_goto (off := 4) (by decide +kernel) (by decide)) (
  e_more (s_iconst (n := 0) (v := 0) (by decide +kernel) (by decide)) (
  e_more (s_istore (by decide +kernel) (by decide)) (
  e_more (s_iconst (n := 0) (v := 0) (by decide +kernel) (by decide)) (
  e_more (s_istore (by decide +kernel) (by decide)) (
  e_more (s_iload (by decide +kernel)) (
  e_more (s_aload_n (k := 0) (by decide +kernel) rfl) (
  e_more (s_iconst (n := 0) (v := 0) (by decide +kernel) (by decide)) (
  e_more (s_callV (c := 4) (idx := 58) nk_X4_count (by decide +kernel) cl_X4_count (by decide) rfl wd_746 wd_747 wd_748 (by decide) nr_X4_count) (
  e_more (s_ic_ge (off := 50) (by decide +kernel) (by decide)) (
  e_more (s_iload (by decide +kernel)) (
  e_more (s_if_eq (off := 45) (by decide +kernel) (by decide)) (
  e_more (s_aload_n (k := 0) (by decide +kernel) rfl) (
  e_more (s_iload_n (k := 3) (by decide +kernel) rfl) (
  e_more (s_iload (by decide +kernel)) (
  e_more (s_callV (c := 4) (idx := 61) nk_X4_noLoan (by decide +kernel) cl_X4_noLoan (by decide) rfl wd_848 wd_849 wd_850 (by decide) nr_X4_noLoan) (
  e_more (s_iconst (n := 1) (v := 1) (by decide +kernel) (by decide)) (
  e_more (s_ic_ne (off := 7) (by decide +kernel) (by decide)) (
  e_more (s_iconst (n := 1) (v := 1) (by decide +kernel) (by decide)) (
  e_more (s_goto (off := 4) (by decide +kernel) (by decide)) (
  e_more (s_iconst (n := 0) (v := 0) (by decide +kernel) (by decide)) (
  e_more (s_iload (by decide +kernel)) (
  e_more (s_if_lt (off := 7) (by decide +kernel) (by decide)) (
  e_more (s_iconst (n := 1) (v := 1) (by decide +kernel) (by decide)) (
  e_more (s_goto (off := 4) (by decide +kernel) (by decide)) (
  e_more (s_iconst (n := 0) (v := 0) (by decide +kernel) (by decide)) (
  e_more (s_ic_ne (off := 7) (by decide +kernel) (by decide)) (
  e_more (s_iconst (n := 1) (v := 1) (by decide +kernel) (by decide)) (
  e_no_more))))))))))))))))))))))))))))))))))))))))
def tb_L_areTools_3 : eTb := [(211, t_goto 215), (214, t_push (.inl 0) 1 214), (215, t_stI 6 2 215), (217, t_iinc 7 1 217), (220, t_goto 166), (223, t_ldI 6 2 223), (225, t_ifn (fun a => a = 0) 230 225), (228, t_push (.inl 0) 1 228), (229, t_zret), (230, t_iinc 3 1 230), (233, t_goto 6), (236, t_push (.inl 0) 1 236), (237, t_stI 3 1 237), (238, t_ldI 3 1 238), (239, t_ldI 1 1 239), (240, t_ic (fun a b => b < a) 328 240), (243, t_ldO 0 1 243), (244, t_ldI 3 1 244), (245, t_call 2 1 6 nw_X4_loan 245), (248, t_stI 4 2 248), (250, t_ldI 3 1 250), (251, t_ldI 1 1 251), (252, t_icn (fun a b => a = b) 264 252), (255, t_ldI 4 2 255), (257, t_push (.inl (-1)) 1 257), (258, t_ic (fun a b => a = b) 289 258), (261, t_goto 287), (264, t_ldI 4 2 264), (266, t_if (fun a => a < 0) 287 266), (269, t_ldO 0 1 269), (270, t_ldI 4 2 270), (272, t_push (.inl 10) 2 272), (274, t_idv (fun a b => a / b) 274), (275, t_push (.inl 2) 1 275), (276, t_call 3 1 6 nw_X4_instrumentOf 276), (279, t_ldI 4 2 279), (281, t_push (.inl 10) 2 281), (283, t_idv (fun a b => a - a / b * b) 283), (284, t_ic (fun a b => a = b) 289 284), (287, t_push (.inl 0) 1 287)]
theorem st_L_areTools_3 : ∀ x ∈ tb_L_areTools_3, e_Sd e_rf RL i_L_areTools x.1 x.2 :=
  e_more (s_goto (off := 4) (by decide +kernel) (by decide)) (
  e_more (s_iconst (n := 0) (v := 0) (by decide +kernel) (by decide)) (
  e_more (s_istore (by decide +kernel) (by decide)) (
  e_more (s_iinc (z := 1) (n := 1) (by decide +kernel) (by decide) (by decide)) (
  e_more (s_goto (off := (-54)) (by decide +kernel) (by decide)) (
  e_more (s_iload (by decide +kernel)) (
  e_more (s_if_ne (off := 5) (by decide +kernel) (by decide)) (
  e_more (s_iconst (n := 0) (v := 0) (by decide +kernel) (by decide)) (
  e_more (s_zret (by decide +kernel) rfl) (
  e_more (s_iinc (z := 1) (n := 1) (by decide +kernel) (by decide) (by decide)) (
  e_more (s_goto (off := (-227)) (by decide +kernel) (by decide)) (
  e_more (s_iconst (n := 0) (v := 0) (by decide +kernel) (by decide)) (
  e_more (s_istore_n (k := 3) (by decide +kernel) rfl (by decide)) (
  e_more (s_iload_n (k := 3) (by decide +kernel) rfl) (
  e_more (s_iload_n (k := 1) (by decide +kernel) rfl) (
  e_more (s_ic_gt (off := 88) (by decide +kernel) (by decide)) (
  e_more (s_aload_n (k := 0) (by decide +kernel) rfl) (
  e_more (s_iload_n (k := 3) (by decide +kernel) rfl) (
  e_more (s_callV (c := 4) (idx := 64) nk_X4_loan (by decide +kernel) cl_X4_loan (by decide) rfl wd_859 wd_860 wd_861 (by decide) nr_X4_loan) (
  e_more (s_istore (by decide +kernel) (by decide)) (
  e_more (s_iload_n (k := 3) (by decide +kernel) rfl) (
  e_more (s_iload_n (k := 1) (by decide +kernel) rfl) (
  e_more (s_ic_ne (off := 12) (by decide +kernel) (by decide)) (
  e_more (s_iload (by decide +kernel)) (
  e_more (s_iconst (n := (-1)) (v := (-1)) (by decide +kernel) (by decide)) (
  e_more (s_ic_eq (off := 31) (by decide +kernel) (by decide)) (
  e_more (s_goto (off := 26) (by decide +kernel) (by decide)) (
  e_more (s_iload (by decide +kernel)) (
  e_more (s_if_lt (off := 21) (by decide +kernel) (by decide)) (
  e_more (s_aload_n (k := 0) (by decide +kernel) rfl) (
  e_more (s_iload (by decide +kernel)) (
  e_more (s_bipush (n := 10) (v := 10) (by decide +kernel) (by decide)) (
  e_more (s_idiv (by decide +kernel)) (
  e_more (s_iconst (n := 2) (v := 2) (by decide +kernel) (by decide)) (
  e_more (s_callV (c := 4) (idx := 40) nk_X4_instrumentOf (by decide +kernel) cl_X4_instrumentOf (by decide) rfl wd_779 wd_780 wd_781 (by decide) nr_X4_instrumentOf) (
  e_more (s_iload (by decide +kernel)) (
  e_more (s_bipush (n := 10) (v := 10) (by decide +kernel) (by decide)) (
  e_more (s_irem (by decide +kernel)) (
  e_more (s_ic_eq (off := 5) (by decide +kernel) (by decide)) (
  e_more (s_iconst (n := 0) (v := 0) (by decide +kernel) (by decide)) (
  e_no_more))))))))))))))))))))))))))))))))))))))))
def tb_L_areTools_4 : eTb := [(288, t_zret), (289, t_push (.inl 0) 1 289), (290, t_stI 5 2 290), (292, t_ldI 5 2 292), (294, t_ldI 3 1 294), (295, t_ic (fun a b => b ≤ a) 322 295), (298, t_ldI 3 1 298), (299, t_ldI 1 1 299), (300, t_ic (fun a b => b ≤ a) 322 300), (303, t_ldO 0 1 303), (304, t_ldI 5 2 304), (306, t_call 2 1 6 nw_X4_loan 306), (309, t_ldI 4 2 309), (311, t_icn (fun a b => a = b) 316 311), (314, t_push (.inl 0) 1 314), (315, t_zret), (316, t_iinc 5 1 316), (319, t_goto 292), (322, t_iinc 3 1 322), (325, t_goto 238), (328, t_ldO 0 1 328), (329, t_push (.inl 2) 1 329), (330, t_call 2 1 6 nw_X4_count 330), (333, t_ldI 1 1 333), (334, t_icn (fun a b => a = b) 360 334), (337, t_ldI 2 1 337), (338, t_push (.inl 4) 1 338), (339, t_ldO 0 1 339), (340, t_push (.inl 6) 2 340), (342, t_call 2 1 6 nw_X4_count 342), (345, t_ii (fun a b => a * b) 345), (346, t_ldO 0 1 346), (347, t_push (.inl 7) 2 347), (349, t_call 2 1 6 nw_X4_count 349), (352, t_ii (fun a b => a - b) 352), (353, t_icn (fun a b => a = b) 360 353), (356, t_push (.inl 1) 1 356), (357, t_goto 361), (360, t_push (.inl 0) 1 360), (361, t_zret)]
theorem st_L_areTools_4 : ∀ x ∈ tb_L_areTools_4, e_Sd e_rf RL i_L_areTools x.1 x.2 :=
  e_more (s_zret (by decide +kernel) rfl) (
  e_more (s_iconst (n := 0) (v := 0) (by decide +kernel) (by decide)) (
  e_more (s_istore (by decide +kernel) (by decide)) (
  e_more (s_iload (by decide +kernel)) (
  e_more (s_iload_n (k := 3) (by decide +kernel) rfl) (
  e_more (s_ic_ge (off := 27) (by decide +kernel) (by decide)) (
  e_more (s_iload_n (k := 3) (by decide +kernel) rfl) (
  e_more (s_iload_n (k := 1) (by decide +kernel) rfl) (
  e_more (s_ic_ge (off := 22) (by decide +kernel) (by decide)) (
  e_more (s_aload_n (k := 0) (by decide +kernel) rfl) (
  e_more (s_iload (by decide +kernel)) (
  e_more (s_callV (c := 4) (idx := 64) nk_X4_loan (by decide +kernel) cl_X4_loan (by decide) rfl wd_859 wd_860 wd_861 (by decide) nr_X4_loan) (
  e_more (s_iload (by decide +kernel)) (
  e_more (s_ic_ne (off := 5) (by decide +kernel) (by decide)) (
  e_more (s_iconst (n := 0) (v := 0) (by decide +kernel) (by decide)) (
  e_more (s_zret (by decide +kernel) rfl) (
  e_more (s_iinc (z := 1) (n := 1) (by decide +kernel) (by decide) (by decide)) (
  e_more (s_goto (off := (-27)) (by decide +kernel) (by decide)) (
  e_more (s_iinc (z := 1) (n := 1) (by decide +kernel) (by decide) (by decide)) (
  e_more (s_goto (off := (-87)) (by decide +kernel) (by decide)) (
  e_more (s_aload_n (k := 0) (by decide +kernel) rfl) (
  e_more (s_iconst (n := 2) (v := 2) (by decide +kernel) (by decide)) (
  e_more (s_callV (c := 4) (idx := 58) nk_X4_count (by decide +kernel) cl_X4_count (by decide) rfl wd_746 wd_747 wd_748 (by decide) nr_X4_count) (
  e_more (s_iload_n (k := 1) (by decide +kernel) rfl) (
  e_more (s_ic_ne (off := 26) (by decide +kernel) (by decide)) (
  e_more (s_iload_n (k := 2) (by decide +kernel) rfl) (
  e_more (s_iconst (n := 4) (v := 4) (by decide +kernel) (by decide)) (
  e_more (s_aload_n (k := 0) (by decide +kernel) rfl) (
  e_more (s_bipush (n := 6) (v := 6) (by decide +kernel) (by decide)) (
  e_more (s_callV (c := 4) (idx := 58) nk_X4_count (by decide +kernel) cl_X4_count (by decide) rfl wd_746 wd_747 wd_748 (by decide) nr_X4_count) (
  e_more (s_imul (by decide +kernel)) (
  e_more (s_aload_n (k := 0) (by decide +kernel) rfl) (
  e_more (s_bipush (n := 7) (v := 7) (by decide +kernel) (by decide)) (
  e_more (s_callV (c := 4) (idx := 58) nk_X4_count (by decide +kernel) cl_X4_count (by decide) rfl wd_746 wd_747 wd_748 (by decide) nr_X4_count) (
  e_more (s_isub (by decide +kernel)) (
  e_more (s_ic_ne (off := 7) (by decide +kernel) (by decide)) (
  e_more (s_iconst (n := 1) (v := 1) (by decide +kernel) (by decide)) (
  e_more (s_goto (off := 4) (by decide +kernel) (by decide)) (
  e_more (s_iconst (n := 0) (v := 0) (by decide +kernel) (by decide)) (
  e_more (s_zret (by decide +kernel) rfl) (
  e_no_more))))))))))))))))))))))))))))))))))))))))
def tb_L_areTools : eTb := tb_L_areTools_0 ++ tb_L_areTools_1 ++ tb_L_areTools_2 ++ tb_L_areTools_3 ++ tb_L_areTools_4
theorem st_L_areTools : ∀ x ∈ tb_L_areTools, e_Sd e_rf RL i_L_areTools x.1 x.2 := e_app (e_app (e_app (e_app (st_L_areTools_0) st_L_areTools_1) st_L_areTools_2) st_L_areTools_3) st_L_areTools_4
def w_L_areTools : eW := e_rn tb_L_areTools (iL i_L_areTools) 446 2676
theorem k_L_areTools : e_OK e_rf i_L_areTools 446 2676 w_L_areTools := k_rn (own := RL) ⟨by decide +kernel, rfl⟩ st_L_areTools
abbrev i_L_holds : eI := (yL_holds, cL_holds, 8, (some .boolean), 12)
theorem cl_L_holds : e_Cl i_L_holds 1 := ⟨wd_745, wd_14, ⟨by decide, by decide⟩, by decide +kernel, by decide⟩
def tb_L_holds_0 : eTb := [(0, t_push (.inl 0) 1 0), (1, t_stI 1 1 1), (2, t_push (.inl 0) 1 2), (3, t_stI 2 1 3), (4, t_push (.inl 0) 1 4), (5, t_stI 3 1 5), (6, t_ldI 3 1 6), (7, t_ldO 0 1 7), (8, t_push (.inl 0) 1 8), (9, t_call 2 1 6 nw_X4_count 9), (12, t_ic (fun a b => b ≤ a) 150 12), (15, t_ldO 0 1 15), (16, t_ldI 3 1 16), (17, t_push (.inl 4) 1 17), (18, t_call 3 1 6 nw_X4_pupilOf 18), (21, t_stI 4 2 21), (23, t_ldI 1 1 23), (24, t_ldO 0 1 24), (25, t_ldI 3 1 25), (26, t_push (.inl 3) 1 26), (27, t_call 3 1 6 nw_X4_pupilOf 27), (30, t_ii (fun a b => a + b) 30), (31, t_stI 1 1 31), (32, t_ldI 2 1 32), (33, t_ldO 0 1 33), (34, t_ldI 3 1 34), (35, t_push (.inl 6) 2 35), (37, t_call 3 1 6 nw_X4_pupilOf 37), (40, t_ii (fun a b => a + b) 40), (41, t_stI 2 1 41), (42, t_ldO 0 1 42), (43, t_ldI 3 1 43), (44, t_push (.inl 1) 1 44), (45, t_call 3 1 6 nw_X4_pupilOf 45), (48, t_if (fun a => a < 0) 134 48), (51, t_ldO 0 1 51), (52, t_ldI 3 1 52), (53, t_push (.inl 1) 1 53), (54, t_call 3 1 6 nw_X4_pupilOf 54), (57, t_ldO 0 1 57)]
theorem st_L_holds_0 : ∀ x ∈ tb_L_holds_0, e_Sd e_rf RL i_L_holds x.1 x.2 :=
  e_more (s_iconst (n := 0) (v := 0) (by decide +kernel) (by decide)) (
  e_more (s_istore_n (k := 1) (by decide +kernel) rfl (by decide)) (
  e_more (s_iconst (n := 0) (v := 0) (by decide +kernel) (by decide)) (
  e_more (s_istore_n (k := 2) (by decide +kernel) rfl (by decide)) (
  e_more (s_iconst (n := 0) (v := 0) (by decide +kernel) (by decide)) (
  e_more (s_istore_n (k := 3) (by decide +kernel) rfl (by decide)) (
  e_more (s_iload_n (k := 3) (by decide +kernel) rfl) (
  e_more (s_aload_n (k := 0) (by decide +kernel) rfl) (
  e_more (s_iconst (n := 0) (v := 0) (by decide +kernel) (by decide)) (
  e_more (s_callV (c := 4) (idx := 58) nk_X4_count (by decide +kernel) cl_X4_count (by decide) rfl wd_746 wd_747 wd_748 (by decide) nr_X4_count) (
  e_more (s_ic_ge (off := 138) (by decide +kernel) (by decide)) (
  e_more (s_aload_n (k := 0) (by decide +kernel) rfl) (
  e_more (s_iload_n (k := 3) (by decide +kernel) rfl) (
  e_more (s_iconst (n := 4) (v := 4) (by decide +kernel) (by decide)) (
  e_more (s_callV (c := 4) (idx := 37) nk_X4_pupilOf (by decide +kernel) cl_X4_pupilOf (by decide) rfl wd_769 wd_770 wd_771 (by decide) nr_X4_pupilOf) (
  e_more (s_istore (by decide +kernel) (by decide)) (
  e_more (s_iload_n (k := 1) (by decide +kernel) rfl) (
  e_more (s_aload_n (k := 0) (by decide +kernel) rfl) (
  e_more (s_iload_n (k := 3) (by decide +kernel) rfl) (
  e_more (s_iconst (n := 3) (v := 3) (by decide +kernel) (by decide)) (
  e_more (s_callV (c := 4) (idx := 37) nk_X4_pupilOf (by decide +kernel) cl_X4_pupilOf (by decide) rfl wd_769 wd_770 wd_771 (by decide) nr_X4_pupilOf) (
  e_more (s_iadd (by decide +kernel)) (
  e_more (s_istore_n (k := 1) (by decide +kernel) rfl (by decide)) (
  e_more (s_iload_n (k := 2) (by decide +kernel) rfl) (
  e_more (s_aload_n (k := 0) (by decide +kernel) rfl) (
  e_more (s_iload_n (k := 3) (by decide +kernel) rfl) (
  e_more (s_bipush (n := 6) (v := 6) (by decide +kernel) (by decide)) (
  e_more (s_callV (c := 4) (idx := 37) nk_X4_pupilOf (by decide +kernel) cl_X4_pupilOf (by decide) rfl wd_769 wd_770 wd_771 (by decide) nr_X4_pupilOf) (
  e_more (s_iadd (by decide +kernel)) (
  e_more (s_istore_n (k := 2) (by decide +kernel) rfl (by decide)) (
  e_more (s_aload_n (k := 0) (by decide +kernel) rfl) (
  e_more (s_iload_n (k := 3) (by decide +kernel) rfl) (
  e_more (s_iconst (n := 1) (v := 1) (by decide +kernel) (by decide)) (
  e_more (s_callV (c := 4) (idx := 37) nk_X4_pupilOf (by decide +kernel) cl_X4_pupilOf (by decide) rfl wd_769 wd_770 wd_771 (by decide) nr_X4_pupilOf) (
  e_more (s_if_lt (off := 86) (by decide +kernel) (by decide)) (
  e_more (s_aload_n (k := 0) (by decide +kernel) rfl) (
  e_more (s_iload_n (k := 3) (by decide +kernel) rfl) (
  e_more (s_iconst (n := 1) (v := 1) (by decide +kernel) (by decide)) (
  e_more (s_callV (c := 4) (idx := 37) nk_X4_pupilOf (by decide +kernel) cl_X4_pupilOf (by decide) rfl wd_769 wd_770 wd_771 (by decide) nr_X4_pupilOf) (
  e_more (s_aload_n (k := 0) (by decide +kernel) rfl) (
  e_no_more))))))))))))))))))))))))))))))))))))))))
def tb_L_holds_1 : eTb := [(58, t_ldI 3 1 58), (59, t_push (.inl 0) 1 59), (60, t_call 3 1 6 nw_X4_pupilOf 60), (63, t_ic (fun a b => b < a) 134 63), (66, t_ldO 0 1 66), (67, t_ldI 3 1 67), (68, t_push (.inl 2) 1 68), (69, t_call 3 1 6 nw_X4_pupilOf 69), (72, t_push (.inl 1) 1 72), (73, t_ic (fun a b => a < b) 134 73), (76, t_ldO 0 1 76), (77, t_ldI 3 1 77), (78, t_push (.inl 2) 1 78), (79, t_call 3 1 6 nw_X4_pupilOf 79), (82, t_push (.inl 20) 2 82), (84, t_ic (fun a b => b < a) 134 84), (87, t_ldO 0 1 87), (88, t_ldI 3 1 88), (89, t_push (.inl 3) 1 89), (90, t_call 3 1 6 nw_X4_pupilOf 90), (93, t_if (fun a => a < 0) 134 93), (96, t_ldI 4 2 96), (98, t_if (fun a => a < 0) 112 98), (101, t_ldO 0 1 101), (102, t_ldI 4 2 102), (104, t_push (.inl 2) 1 104), (105, t_call 3 1 6 nw_X4_instrumentOf 105), (108, t_ldI 3 1 108), (109, t_icn (fun a b => a = b) 134 109), (112, t_ldO 0 1 112), (113, t_ldI 3 1 113), (114, t_push (.inl 5) 1 114), (115, t_call 3 1 6 nw_X4_pupilOf 115), (118, t_if (fun a => a = 0) 130 118), (121, t_ldO 0 1 121), (122, t_ldI 3 1 122), (123, t_push (.inl 2) 1 123), (124, t_call 3 1 6 nw_X4_noLesson 124), (127, t_if (fun a => a ≤ 0) 134 127), (130, t_push (.inl 1) 1 130)]
theorem st_L_holds_1 : ∀ x ∈ tb_L_holds_1, e_Sd e_rf RL i_L_holds x.1 x.2 :=
  e_more (s_iload_n (k := 3) (by decide +kernel) rfl) (
  e_more (s_iconst (n := 0) (v := 0) (by decide +kernel) (by decide)) (
  e_more (s_callV (c := 4) (idx := 37) nk_X4_pupilOf (by decide +kernel) cl_X4_pupilOf (by decide) rfl wd_769 wd_770 wd_771 (by decide) nr_X4_pupilOf) (
  e_more (s_ic_gt (off := 71) (by decide +kernel) (by decide)) (
  e_more (s_aload_n (k := 0) (by decide +kernel) rfl) (
  e_more (s_iload_n (k := 3) (by decide +kernel) rfl) (
  e_more (s_iconst (n := 2) (v := 2) (by decide +kernel) (by decide)) (
  e_more (s_callV (c := 4) (idx := 37) nk_X4_pupilOf (by decide +kernel) cl_X4_pupilOf (by decide) rfl wd_769 wd_770 wd_771 (by decide) nr_X4_pupilOf) (
  e_more (s_iconst (n := 1) (v := 1) (by decide +kernel) (by decide)) (
  e_more (s_ic_lt (off := 61) (by decide +kernel) (by decide)) (
  e_more (s_aload_n (k := 0) (by decide +kernel) rfl) (
  e_more (s_iload_n (k := 3) (by decide +kernel) rfl) (
  e_more (s_iconst (n := 2) (v := 2) (by decide +kernel) (by decide)) (
  e_more (s_callV (c := 4) (idx := 37) nk_X4_pupilOf (by decide +kernel) cl_X4_pupilOf (by decide) rfl wd_769 wd_770 wd_771 (by decide) nr_X4_pupilOf) (
  e_more (s_bipush (n := 20) (v := 20) (by decide +kernel) (by decide)) (
  e_more (s_ic_gt (off := 50) (by decide +kernel) (by decide)) (
  e_more (s_aload_n (k := 0) (by decide +kernel) rfl) (
  e_more (s_iload_n (k := 3) (by decide +kernel) rfl) (
  e_more (s_iconst (n := 3) (v := 3) (by decide +kernel) (by decide)) (
  e_more (s_callV (c := 4) (idx := 37) nk_X4_pupilOf (by decide +kernel) cl_X4_pupilOf (by decide) rfl wd_769 wd_770 wd_771 (by decide) nr_X4_pupilOf) (
  e_more (s_if_lt (off := 41) (by decide +kernel) (by decide)) (
  e_more (s_iload (by decide +kernel)) (
  e_more (s_if_lt (off := 14) (by decide +kernel) (by decide)) (
  e_more (s_aload_n (k := 0) (by decide +kernel) rfl) (
  e_more (s_iload (by decide +kernel)) (
  e_more (s_iconst (n := 2) (v := 2) (by decide +kernel) (by decide)) (
  e_more (s_callV (c := 4) (idx := 40) nk_X4_instrumentOf (by decide +kernel) cl_X4_instrumentOf (by decide) rfl wd_779 wd_780 wd_781 (by decide) nr_X4_instrumentOf) (
  e_more (s_iload_n (k := 3) (by decide +kernel) rfl) (
  e_more (s_ic_ne (off := 25) (by decide +kernel) (by decide)) (
  e_more (s_aload_n (k := 0) (by decide +kernel) rfl) (
  e_more (s_iload_n (k := 3) (by decide +kernel) rfl) (
  e_more (s_iconst (n := 5) (v := 5) (by decide +kernel) (by decide)) (
  e_more (s_callV (c := 4) (idx := 37) nk_X4_pupilOf (by decide +kernel) cl_X4_pupilOf (by decide) rfl wd_769 wd_770 wd_771 (by decide) nr_X4_pupilOf) (
  e_more (s_if_eq (off := 12) (by decide +kernel) (by decide)) (
  e_more (s_aload_n (k := 0) (by decide +kernel) rfl) (
  e_more (s_iload_n (k := 3) (by decide +kernel) rfl) (
  e_more (s_iconst (n := 2) (v := 2) (by decide +kernel) (by decide)) (
  e_more (s_callV (c := 4) (idx := 55) nk_X4_noLesson (by decide +kernel) cl_X4_noLesson (by decide) rfl wd_798 wd_799 wd_800 (by decide) nr_X4_noLesson) (
  e_more (s_if_le (off := 7) (by decide +kernel) (by decide)) (
  e_more (s_iconst (n := 1) (v := 1) (by decide +kernel) (by decide)) (
  e_no_more))))))))))))))))))))))))))))))))))))))))
def tb_L_holds_2 : eTb := [(131, t_goto 135), (134, t_push (.inl 0) 1 134), (135, t_stI 5 2 135), (137, t_ldI 5 2 137), (139, t_ifn (fun a => a = 0) 144 139), (142, t_push (.inl 0) 1 142), (143, t_zret), (144, t_iinc 3 1 144), (147, t_goto 6), (150, t_ldO 0 1 150), (151, t_call0 1 w_X4_bestMarch 151), (154, t_stI 3 1 154), (155, t_push (.inl 0) 1 155), (156, t_stI 4 2 156), (158, t_push (.inl 0) 1 158), (159, t_stI 5 2 159), (161, t_ldI 5 2 161), (163, t_push (.inl 4) 1 163), (164, t_ic (fun a b => b ≤ a) 232 164), (167, t_ldO 0 1 167), (168, t_push (.inl 17) 2 168), (170, t_call 2 1 6 nw_X4_count 170), (173, t_push (.inl 4) 1 173), (174, t_ldO 0 1 174), (175, t_ldI 5 2 175), (177, t_call 2 1 6 nw_X4_shortOf 177), (180, t_ii (fun a b => a - b) 180), (181, t_ii (fun a b => a * b) 181), (182, t_ldO 0 1 182), (183, t_ldI 5 2 183), (185, t_call 2 1 6 nw_X4_shortOf 185), (188, t_ifn (fun a => a = 0) 195 188), (191, t_push (.inl 2) 1 191), (192, t_goto 196), (195, t_push (.inl 1) 1 195), (196, t_ii (fun a b => a * b) 196), (197, t_stI 6 2 197), (199, t_ldI 6 2 199), (201, t_ldI 4 2 201), (203, t_ic (fun a b => a ≤ b) 211 203)]
theorem st_L_holds_2 : ∀ x ∈ tb_L_holds_2, e_Sd e_rf RL i_L_holds x.1 x.2 :=
  e_more (s_goto (off := 4) (by decide +kernel) (by decide)) (
  e_more (s_iconst (n := 0) (v := 0) (by decide +kernel) (by decide)) (
  e_more (s_istore (by decide +kernel) (by decide)) (
  e_more (s_iload (by decide +kernel)) (
  e_more (s_if_ne (off := 5) (by decide +kernel) (by decide)) (
  e_more (s_iconst (n := 0) (v := 0) (by decide +kernel) (by decide)) (
  e_more (s_zret (by decide +kernel) rfl) (
  e_more (s_iinc (z := 1) (n := 1) (by decide +kernel) (by decide) (by decide)) (
  e_more (s_goto (off := (-141)) (by decide +kernel) (by decide)) (
  e_more (s_aload_n (k := 0) (by decide +kernel) rfl) (
  e_more (e_call0 (s_callV (c := 4) (idx := 67) k_X4_bestMarch (by decide +kernel) cl_X4_bestMarch (by decide) rfl wd_367 wd_368 wd_369 (by decide) (e_sf_rec rfl))) (
  e_more (s_istore_n (k := 3) (by decide +kernel) rfl (by decide)) (
  e_more (s_iconst (n := 0) (v := 0) (by decide +kernel) (by decide)) (
  e_more (s_istore (by decide +kernel) (by decide)) (
  e_more (s_iconst (n := 0) (v := 0) (by decide +kernel) (by decide)) (
  e_more (s_istore (by decide +kernel) (by decide)) (
  e_more (s_iload (by decide +kernel)) (
  e_more (s_iconst (n := 4) (v := 4) (by decide +kernel) (by decide)) (
  e_more (s_ic_ge (off := 68) (by decide +kernel) (by decide)) (
  e_more (s_aload_n (k := 0) (by decide +kernel) rfl) (
  e_more (s_bipush (n := 17) (v := 17) (by decide +kernel) (by decide)) (
  e_more (s_callV (c := 4) (idx := 58) nk_X4_count (by decide +kernel) cl_X4_count (by decide) rfl wd_746 wd_747 wd_748 (by decide) nr_X4_count) (
  e_more (s_iconst (n := 4) (v := 4) (by decide +kernel) (by decide)) (
  e_more (s_aload_n (k := 0) (by decide +kernel) rfl) (
  e_more (s_iload (by decide +kernel)) (
  e_more (s_callV (c := 4) (idx := 43) nk_X4_shortOf (by decide +kernel) cl_X4_shortOf (by decide) rfl wd_819 wd_820 wd_821 (by decide) nr_X4_shortOf) (
  e_more (s_isub (by decide +kernel)) (
  e_more (s_imul (by decide +kernel)) (
  e_more (s_aload_n (k := 0) (by decide +kernel) rfl) (
  e_more (s_iload (by decide +kernel)) (
  e_more (s_callV (c := 4) (idx := 43) nk_X4_shortOf (by decide +kernel) cl_X4_shortOf (by decide) rfl wd_819 wd_820 wd_821 (by decide) nr_X4_shortOf) (
  e_more (s_if_ne (off := 7) (by decide +kernel) (by decide)) (
  e_more (s_iconst (n := 2) (v := 2) (by decide +kernel) (by decide)) (
  e_more (s_goto (off := 4) (by decide +kernel) (by decide)) (
  e_more (s_iconst (n := 1) (v := 1) (by decide +kernel) (by decide)) (
  e_more (s_imul (by decide +kernel)) (
  e_more (s_istore (by decide +kernel) (by decide)) (
  e_more (s_iload (by decide +kernel)) (
  e_more (s_iload (by decide +kernel)) (
  e_more (s_ic_le (off := 8) (by decide +kernel) (by decide)) (
  e_no_more))))))))))))))))))))))))))))))))))))))))
def tb_L_holds_3 : eTb := [(206, t_ldI 6 2 206), (208, t_goto 213), (211, t_ldI 4 2 211), (213, t_stI 4 2 213), (215, t_ldO 0 1 215), (216, t_ldI 5 2 216), (218, t_call 2 429 25614 w_L_isMarch 218), (221, t_ifn (fun a => a = 0) 226 221), (224, t_push (.inl 0) 1 224), (225, t_zret), (226, t_iinc 5 1 226), (229, t_goto 161), (232, t_ldO 0 1 232), (233, t_push (.inl 17) 2 233), (235, t_call 2 1 6 nw_X4_count 235), (238, t_push (.inl 4) 1 238), (239, t_ldO 0 1 239), (240, t_ldI 3 1 240), (241, t_call 2 1 6 nw_X4_shortOf 241), (244, t_ii (fun a b => a - b) 244), (245, t_ii (fun a b => a * b) 245), (246, t_ldO 0 1 246), (247, t_ldI 3 1 247), (248, t_call 2 1 6 nw_X4_shortOf 248), (251, t_ifn (fun a => a = 0) 258 251), (254, t_push (.inl 2) 1 254), (255, t_goto 259), (258, t_push (.inl 1) 1 258), (259, t_ii (fun a b => a * b) 259), (260, t_stI 5 2 260), (262, t_ldO 0 1 262), (263, t_push (.inl 6) 2 263), (265, t_call 2 1 6 nw_X4_count 265), (268, t_ifn (fun a => a = 0) 275 268), (271, t_push (.inr (.inr (.inl 4607182418800017408))) 1 271), (272, t_goto 301), (275, t_push (.inl 4) 1 275), (276, t_ldO 0 1 276), (277, t_push (.inl 6) 2 277), (279, t_call 2 1 6 nw_X4_count 279)]
theorem st_L_holds_3 : ∀ x ∈ tb_L_holds_3, e_Sd e_rf RL i_L_holds x.1 x.2 :=
  e_more (s_iload (by decide +kernel)) (
  e_more (s_goto (off := 5) (by decide +kernel) (by decide)) (
  e_more (s_iload (by decide +kernel)) (
  e_more (s_istore (by decide +kernel) (by decide)) (
  e_more (s_aload_n (k := 0) (by decide +kernel) rfl) (
  e_more (s_iload (by decide +kernel)) (
  e_more (s_callS (idx := 71) k_L_isMarch (by decide +kernel) cl_L_isMarch wd_823 wd_824 (by decide)) (
  e_more (s_if_ne (off := 5) (by decide +kernel) (by decide)) (
  e_more (s_iconst (n := 0) (v := 0) (by decide +kernel) (by decide)) (
  e_more (s_zret (by decide +kernel) rfl) (
  e_more (s_iinc (z := 1) (n := 1) (by decide +kernel) (by decide) (by decide)) (
  e_more (s_goto (off := (-68)) (by decide +kernel) (by decide)) (
  e_more (s_aload_n (k := 0) (by decide +kernel) rfl) (
  e_more (s_bipush (n := 17) (v := 17) (by decide +kernel) (by decide)) (
  e_more (s_callV (c := 4) (idx := 58) nk_X4_count (by decide +kernel) cl_X4_count (by decide) rfl wd_746 wd_747 wd_748 (by decide) nr_X4_count) (
  e_more (s_iconst (n := 4) (v := 4) (by decide +kernel) (by decide)) (
  e_more (s_aload_n (k := 0) (by decide +kernel) rfl) (
  e_more (s_iload_n (k := 3) (by decide +kernel) rfl) (
  e_more (s_callV (c := 4) (idx := 43) nk_X4_shortOf (by decide +kernel) cl_X4_shortOf (by decide) rfl wd_819 wd_820 wd_821 (by decide) nr_X4_shortOf) (
  e_more (s_isub (by decide +kernel)) (
  e_more (s_imul (by decide +kernel)) (
  e_more (s_aload_n (k := 0) (by decide +kernel) rfl) (
  e_more (s_iload_n (k := 3) (by decide +kernel) rfl) (
  e_more (s_callV (c := 4) (idx := 43) nk_X4_shortOf (by decide +kernel) cl_X4_shortOf (by decide) rfl wd_819 wd_820 wd_821 (by decide) nr_X4_shortOf) (
  e_more (s_if_ne (off := 7) (by decide +kernel) (by decide)) (
  e_more (s_iconst (n := 2) (v := 2) (by decide +kernel) (by decide)) (
  e_more (s_goto (off := 4) (by decide +kernel) (by decide)) (
  e_more (s_iconst (n := 1) (v := 1) (by decide +kernel) (by decide)) (
  e_more (s_imul (by decide +kernel)) (
  e_more (s_istore (by decide +kernel) (by decide)) (
  e_more (s_aload_n (k := 0) (by decide +kernel) rfl) (
  e_more (s_bipush (n := 6) (v := 6) (by decide +kernel) (by decide)) (
  e_more (s_callV (c := 4) (idx := 58) nk_X4_count (by decide +kernel) cl_X4_count (by decide) rfl wd_746 wd_747 wd_748 (by decide) nr_X4_count) (
  e_more (s_if_ne (off := 7) (by decide +kernel) (by decide)) (
  e_more (s_dconst1 (by decide +kernel)) (
  e_more (s_goto (off := 29) (by decide +kernel) (by decide)) (
  e_more (s_iconst (n := 4) (v := 4) (by decide +kernel) (by decide)) (
  e_more (s_aload_n (k := 0) (by decide +kernel) rfl) (
  e_more (s_bipush (n := 6) (v := 6) (by decide +kernel) (by decide)) (
  e_more (s_callV (c := 4) (idx := 58) nk_X4_count (by decide +kernel) cl_X4_count (by decide) rfl wd_746 wd_747 wd_748 (by decide) nr_X4_count) (
  e_no_more))))))))))))))))))))))))))))))))))))))))
def tb_L_holds_4 : eTb := [(282, t_ii (fun a b => a * b) 282), (283, t_ldO 0 1 283), (284, t_push (.inl 7) 2 284), (286, t_call 2 1 6 nw_X4_count 286), (289, t_ii (fun a b => a - b) 289), (290, t_i1 (fun a => .inr (.inr (.inl (FP.i2d a)))) 290), (291, t_push (.inl 4) 1 291), (292, t_ldO 0 1 292), (293, t_push (.inl 6) 2 293), (295, t_call 2 1 6 nw_X4_count 295), (298, t_ii (fun a b => a * b) 298), (299, t_i1 (fun a => .inr (.inr (.inl (FP.i2d a)))) 299), (300, t_dd FP.ddiv 300), (301, t_stD 6 2 301), (303, t_ldI 5 2 303), (305, t_ldI 4 2 305), (307, t_icn (fun a b => a = b) 449 307), (310, t_ldO 0 1 310), (311, t_push (.inl 8) 2 311), (313, t_call 2 1 6 nw_X4_count 313), (316, t_ldO 0 1 316), (317, t_push (.inl 9) 2 317), (319, t_call 2 1 6 nw_X4_count 319), (322, t_icn (fun a b => a = b) 449 322), (325, t_ldO 0 1 325), (326, t_push (.inl 8) 2 326), (328, t_call 2 1 6 nw_X4_count 328), (331, t_push (.inl 1000000) 2 331), (333, t_ldO 0 1 333), (334, t_push (.inl 10) 2 334), (336, t_call 2 1 6 nw_X4_count 336), (339, t_ii (fun a b => a + b) 339), (340, t_ldO 0 1 340), (341, t_push (.inl 11) 2 341), (343, t_call 2 1 6 nw_X4_count 343), (346, t_ii (fun a b => a + b) 346), (347, t_ldO 0 1 347), (348, t_push (.inl 12) 2 348), (350, t_call 2 1 6 nw_X4_count 350), (353, t_ii (fun a b => a - b) 353)]
theorem st_L_holds_4 : ∀ x ∈ tb_L_holds_4, e_Sd e_rf RL i_L_holds x.1 x.2 :=
  e_more (s_imul (by decide +kernel)) (
  e_more (s_aload_n (k := 0) (by decide +kernel) rfl) (
  e_more (s_bipush (n := 7) (v := 7) (by decide +kernel) (by decide)) (
  e_more (s_callV (c := 4) (idx := 58) nk_X4_count (by decide +kernel) cl_X4_count (by decide) rfl wd_746 wd_747 wd_748 (by decide) nr_X4_count) (
  e_more (s_isub (by decide +kernel)) (
  e_more (s_i2d (by decide +kernel)) (
  e_more (s_iconst (n := 4) (v := 4) (by decide +kernel) (by decide)) (
  e_more (s_aload_n (k := 0) (by decide +kernel) rfl) (
  e_more (s_bipush (n := 6) (v := 6) (by decide +kernel) (by decide)) (
  e_more (s_callV (c := 4) (idx := 58) nk_X4_count (by decide +kernel) cl_X4_count (by decide) rfl wd_746 wd_747 wd_748 (by decide) nr_X4_count) (
  e_more (s_imul (by decide +kernel)) (
  e_more (s_i2d (by decide +kernel)) (
  e_more (s_ddiv (by decide +kernel)) (
  e_more (s_dstore (by decide +kernel) (by decide)) (
  e_more (s_iload (by decide +kernel)) (
  e_more (s_iload (by decide +kernel)) (
  e_more (s_ic_ne (off := 142) (by decide +kernel) (by decide)) (
  e_more (s_aload_n (k := 0) (by decide +kernel) rfl) (
  e_more (s_bipush (n := 8) (v := 8) (by decide +kernel) (by decide)) (
  e_more (s_callV (c := 4) (idx := 58) nk_X4_count (by decide +kernel) cl_X4_count (by decide) rfl wd_746 wd_747 wd_748 (by decide) nr_X4_count) (
  e_more (s_aload_n (k := 0) (by decide +kernel) rfl) (
  e_more (s_bipush (n := 9) (v := 9) (by decide +kernel) (by decide)) (
  e_more (s_callV (c := 4) (idx := 58) nk_X4_count (by decide +kernel) cl_X4_count (by decide) rfl wd_746 wd_747 wd_748 (by decide) nr_X4_count) (
  e_more (s_ic_ne (off := 127) (by decide +kernel) (by decide)) (
  e_more (s_aload_n (k := 0) (by decide +kernel) rfl) (
  e_more (s_bipush (n := 8) (v := 8) (by decide +kernel) (by decide)) (
  e_more (s_callV (c := 4) (idx := 58) nk_X4_count (by decide +kernel) cl_X4_count (by decide) rfl wd_746 wd_747 wd_748 (by decide) nr_X4_count) (
  e_more (s_ldc (i := 77) (v := 1000000) (by decide +kernel) wd_840) (
  e_more (s_aload_n (k := 0) (by decide +kernel) rfl) (
  e_more (s_bipush (n := 10) (v := 10) (by decide +kernel) (by decide)) (
  e_more (s_callV (c := 4) (idx := 58) nk_X4_count (by decide +kernel) cl_X4_count (by decide) rfl wd_746 wd_747 wd_748 (by decide) nr_X4_count) (
  e_more (s_iadd (by decide +kernel)) (
  e_more (s_aload_n (k := 0) (by decide +kernel) rfl) (
  e_more (s_bipush (n := 11) (v := 11) (by decide +kernel) (by decide)) (
  e_more (s_callV (c := 4) (idx := 58) nk_X4_count (by decide +kernel) cl_X4_count (by decide) rfl wd_746 wd_747 wd_748 (by decide) nr_X4_count) (
  e_more (s_iadd (by decide +kernel)) (
  e_more (s_aload_n (k := 0) (by decide +kernel) rfl) (
  e_more (s_bipush (n := 12) (v := 12) (by decide +kernel) (by decide)) (
  e_more (s_callV (c := 4) (idx := 58) nk_X4_count (by decide +kernel) cl_X4_count (by decide) rfl wd_746 wd_747 wd_748 (by decide) nr_X4_count) (
  e_more (s_isub (by decide +kernel)) (
  e_no_more))))))))))))))))))))))))))))))))))))))))
def tb_L_holds_5 : eTb := [(354, t_ldO 0 1 354), (355, t_push (.inl 13) 2 355), (357, t_call 2 1 6 nw_X4_count 357), (360, t_ii (fun a b => a - b) 360), (361, t_icn (fun a b => a = b) 449 361), (364, t_ldO 0 1 364), (365, t_push (.inl 14) 2 365), (367, t_call 2 1 6 nw_X4_count 367), (370, t_ldI 1 1 370), (371, t_icn (fun a b => a = b) 449 371), (374, t_ldO 0 1 374), (375, t_push (.inl 4) 1 375), (376, t_call 2 1 6 nw_X4_count 376), (379, t_push (.inl 1) 1 379), (380, t_icn (fun a b => a = b) 387 380), (383, t_push (.inl 1) 1 383), (384, t_goto 388), (387, t_push (.inl 0) 1 387), (388, t_ldO 0 1 388), (389, t_push (.inl 3) 1 389), (390, t_call 2 1 6 nw_X4_count 390), (393, t_push (.inl 7) 2 393), (395, t_idv (fun a b => a - a / b * b) 395), (396, t_push (.inl 6) 2 396), (398, t_icn (fun a b => a = b) 405 398), (401, t_push (.inl 1) 1 401), (402, t_goto 406), (405, t_push (.inl 0) 1 405), (406, t_icn (fun a b => a = b) 449 406), (409, t_ldI 2 1 409), (410, t_push (.inl 4) 1 410), (411, t_ldO 0 1 411), (412, t_push (.inl 6) 2 412), (414, t_call 2 1 6 nw_X4_count 414), (417, t_ii (fun a b => a * b) 417), (418, t_ldO 0 1 418), (419, t_push (.inl 7) 2 419), (421, t_call 2 1 6 nw_X4_count 421), (424, t_ii (fun a b => a - b) 424), (425, t_icn (fun a b => a = b) 449 425)]
theorem st_L_holds_5 : ∀ x ∈ tb_L_holds_5, e_Sd e_rf RL i_L_holds x.1 x.2 :=
  e_more (s_aload_n (k := 0) (by decide +kernel) rfl) (
  e_more (s_bipush (n := 13) (v := 13) (by decide +kernel) (by decide)) (
  e_more (s_callV (c := 4) (idx := 58) nk_X4_count (by decide +kernel) cl_X4_count (by decide) rfl wd_746 wd_747 wd_748 (by decide) nr_X4_count) (
  e_more (s_isub (by decide +kernel)) (
  e_more (s_ic_ne (off := 88) (by decide +kernel) (by decide)) (
  e_more (s_aload_n (k := 0) (by decide +kernel) rfl) (
  e_more (s_bipush (n := 14) (v := 14) (by decide +kernel) (by decide)) (
  e_more (s_callV (c := 4) (idx := 58) nk_X4_count (by decide +kernel) cl_X4_count (by decide) rfl wd_746 wd_747 wd_748 (by decide) nr_X4_count) (
  e_more (s_iload_n (k := 1) (by decide +kernel) rfl) (
  e_more (s_ic_ne (off := 78) (by decide +kernel) (by decide)) (
  e_more (s_aload_n (k := 0) (by decide +kernel) rfl) (
  e_more (s_iconst (n := 4) (v := 4) (by decide +kernel) (by decide)) (
  e_more (s_callV (c := 4) (idx := 58) nk_X4_count (by decide +kernel) cl_X4_count (by decide) rfl wd_746 wd_747 wd_748 (by decide) nr_X4_count) (
  e_more (s_iconst (n := 1) (v := 1) (by decide +kernel) (by decide)) (
  e_more (s_ic_ne (off := 7) (by decide +kernel) (by decide)) (
  e_more (s_iconst (n := 1) (v := 1) (by decide +kernel) (by decide)) (
  e_more (s_goto (off := 4) (by decide +kernel) (by decide)) (
  e_more (s_iconst (n := 0) (v := 0) (by decide +kernel) (by decide)) (
  e_more (s_aload_n (k := 0) (by decide +kernel) rfl) (
  e_more (s_iconst (n := 3) (v := 3) (by decide +kernel) (by decide)) (
  e_more (s_callV (c := 4) (idx := 58) nk_X4_count (by decide +kernel) cl_X4_count (by decide) rfl wd_746 wd_747 wd_748 (by decide) nr_X4_count) (
  e_more (s_bipush (n := 7) (v := 7) (by decide +kernel) (by decide)) (
  e_more (s_irem (by decide +kernel)) (
  e_more (s_bipush (n := 6) (v := 6) (by decide +kernel) (by decide)) (
  e_more (s_ic_ne (off := 7) (by decide +kernel) (by decide)) (
  e_more (s_iconst (n := 1) (v := 1) (by decide +kernel) (by decide)) (
  e_more (s_goto (off := 4) (by decide +kernel) (by decide)) (
  e_more (s_iconst (n := 0) (v := 0) (by decide +kernel) (by decide)) (
  e_more (s_ic_ne (off := 43) (by decide +kernel) (by decide)) (
  e_more (s_iload_n (k := 2) (by decide +kernel) rfl) (
  e_more (s_iconst (n := 4) (v := 4) (by decide +kernel) (by decide)) (
  e_more (s_aload_n (k := 0) (by decide +kernel) rfl) (
  e_more (s_bipush (n := 6) (v := 6) (by decide +kernel) (by decide)) (
  e_more (s_callV (c := 4) (idx := 58) nk_X4_count (by decide +kernel) cl_X4_count (by decide) rfl wd_746 wd_747 wd_748 (by decide) nr_X4_count) (
  e_more (s_imul (by decide +kernel)) (
  e_more (s_aload_n (k := 0) (by decide +kernel) rfl) (
  e_more (s_bipush (n := 7) (v := 7) (by decide +kernel) (by decide)) (
  e_more (s_callV (c := 4) (idx := 58) nk_X4_count (by decide +kernel) cl_X4_count (by decide) rfl wd_746 wd_747 wd_748 (by decide) nr_X4_count) (
  e_more (s_isub (by decide +kernel)) (
  e_more (s_ic_ne (off := 24) (by decide +kernel) (by decide)) (
  e_no_more))))))))))))))))))))))))))))))))))))))))
def tb_L_holds_6 : eTb := [(428, t_ldO 0 1 428), (429, t_call0 1 w_X4_played 429), (432, t_ldD 6 2 432), (434, t_dc (fun a b => Op.cmpValue (FP.dcmp a b) .l) 434), (435, t_ifn (fun a => a = 0) 449 435), (438, t_ldO 0 1 438), (439, t_call 1 446 2676 w_L_areTools 439), (442, t_if (fun a => a = 0) 449 442), (445, t_push (.inl 1) 1 445), (446, t_goto 450), (449, t_push (.inl 0) 1 449), (450, t_zret)]
theorem st_L_holds_6 : ∀ x ∈ tb_L_holds_6, e_Sd e_rf RL i_L_holds x.1 x.2 :=
  e_more (s_aload_n (k := 0) (by decide +kernel) rfl) (
  e_more (e_call0 (s_callV (c := 4) (idx := 78) k_X4_played (by decide +kernel) cl_X4_played (by decide) rfl wd_841 wd_842 wd_843 (by decide) (e_sf_rec rfl))) (
  e_more (s_dload (by decide +kernel)) (
  e_more (s_dcmp (op := .l) (by decide +kernel)) (
  e_more (s_if_ne (off := 14) (by decide +kernel) (by decide)) (
  e_more (s_aload_n (k := 0) (by decide +kernel) rfl) (
  e_more (s_callS (idx := 82) k_L_areTools (by decide +kernel) cl_L_areTools wd_845 wd_846 (by decide)) (
  e_more (s_if_eq (off := 7) (by decide +kernel) (by decide)) (
  e_more (s_iconst (n := 1) (v := 1) (by decide +kernel) (by decide)) (
  e_more (s_goto (off := 4) (by decide +kernel) (by decide)) (
  e_more (s_iconst (n := 0) (v := 0) (by decide +kernel) (by decide)) (
  e_more (s_zret (by decide +kernel) rfl) (
  e_no_more))))))))))))
def tb_L_holds : eTb := tb_L_holds_0 ++ tb_L_holds_1 ++ tb_L_holds_2 ++ tb_L_holds_3 ++ tb_L_holds_4 ++ tb_L_holds_5 ++ tb_L_holds_6
theorem st_L_holds : ∀ x ∈ tb_L_holds, e_Sd e_rf RL i_L_holds x.1 x.2 := e_app (e_app (e_app (e_app (e_app (e_app (st_L_holds_0) st_L_holds_1) st_L_holds_2) st_L_holds_3) st_L_holds_4) st_L_holds_5) st_L_holds_6
def w_L_holds : eW := e_rn tb_L_holds (iL i_L_holds) 2332 106152
theorem k_L_holds : e_OK e_rf i_L_holds 2332 106152 w_L_holds := k_rn (own := RL) ⟨by decide +kernel, rfl⟩ st_L_holds
abbrev i_L_teaches : eI := (yL_teaches, cL_teaches, 10, (some .boolean), 12)
theorem cl_L_teaches : e_Cl i_L_teaches 3 := ⟨wd_1044, wd_14, ⟨by decide, by decide⟩, by decide +kernel, by decide⟩
def tb_L_teaches_0 : eTb := [(0, t_ldO 0 1 0), (1, t_ldI 1 1 1), (2, t_ldI 2 1 2), (3, t_call 3 1 6 nw_X4_noLesson 3), (6, t_stI 3 1 6), (7, t_ldO 0 1 7), (8, t_ldI 1 1 8), (9, t_push (.inl 2) 1 9), (10, t_call 3 1 6 nw_X4_pupilOf 10), (13, t_stI 4 2 13), (15, t_ldO 0 1 15), (16, t_ldI 1 1 16), (17, t_push (.inl 1) 1 17), (18, t_call 3 1 6 nw_X4_pupilOf 18), (21, t_stI 5 2 21), (23, t_ldO 0 1 23), (24, t_push (.inl 5) 1 24), (25, t_call 2 1 6 nw_X4_count 25), (28, t_stI 6 2 28), (30, t_ldO 0 1 30), (31, t_push (.inl 8) 2 31), (33, t_call 2 1 6 nw_X4_count 33), (36, t_stI 7 2 36), (38, t_ldO 0 1 38), (39, t_ldI 1 1 39), (40, t_ldI 2 1 40), (41, t_call 3 1 6 w_L_tryTeach 41), (44, t_stI 8 2 44), (46, t_ldI 3 1 46), (47, t_if (fun a => a ≤ 0) 85 47), (50, t_ldI 8 2 50), (52, t_push (.inl (-7002)) 3 52), (55, t_icn (fun a b => a = b) 83 55), (58, t_ldO 0 1 58), (59, t_ldI 1 1 59), (60, t_push (.inl 2) 1 60), (61, t_call 3 1 6 nw_X4_pupilOf 61), (64, t_ldI 4 2 64), (66, t_icn (fun a b => a = b) 83 66), (69, t_ldO 0 1 69)]
theorem st_L_teaches_0 : ∀ x ∈ tb_L_teaches_0, e_Sd e_rf RL i_L_teaches x.1 x.2 :=
  e_more (s_aload_n (k := 0) (by decide +kernel) rfl) (
  e_more (s_iload_n (k := 1) (by decide +kernel) rfl) (
  e_more (s_iload_n (k := 2) (by decide +kernel) rfl) (
  e_more (s_callV (c := 4) (idx := 55) nk_X4_noLesson (by decide +kernel) cl_X4_noLesson (by decide) rfl wd_798 wd_799 wd_800 (by decide) nr_X4_noLesson) (
  e_more (s_istore_n (k := 3) (by decide +kernel) rfl (by decide)) (
  e_more (s_aload_n (k := 0) (by decide +kernel) rfl) (
  e_more (s_iload_n (k := 1) (by decide +kernel) rfl) (
  e_more (s_iconst (n := 2) (v := 2) (by decide +kernel) (by decide)) (
  e_more (s_callV (c := 4) (idx := 37) nk_X4_pupilOf (by decide +kernel) cl_X4_pupilOf (by decide) rfl wd_769 wd_770 wd_771 (by decide) nr_X4_pupilOf) (
  e_more (s_istore (by decide +kernel) (by decide)) (
  e_more (s_aload_n (k := 0) (by decide +kernel) rfl) (
  e_more (s_iload_n (k := 1) (by decide +kernel) rfl) (
  e_more (s_iconst (n := 1) (v := 1) (by decide +kernel) (by decide)) (
  e_more (s_callV (c := 4) (idx := 37) nk_X4_pupilOf (by decide +kernel) cl_X4_pupilOf (by decide) rfl wd_769 wd_770 wd_771 (by decide) nr_X4_pupilOf) (
  e_more (s_istore (by decide +kernel) (by decide)) (
  e_more (s_aload_n (k := 0) (by decide +kernel) rfl) (
  e_more (s_iconst (n := 5) (v := 5) (by decide +kernel) (by decide)) (
  e_more (s_callV (c := 4) (idx := 58) nk_X4_count (by decide +kernel) cl_X4_count (by decide) rfl wd_746 wd_747 wd_748 (by decide) nr_X4_count) (
  e_more (s_istore (by decide +kernel) (by decide)) (
  e_more (s_aload_n (k := 0) (by decide +kernel) rfl) (
  e_more (s_bipush (n := 8) (v := 8) (by decide +kernel) (by decide)) (
  e_more (s_callV (c := 4) (idx := 58) nk_X4_count (by decide +kernel) cl_X4_count (by decide) rfl wd_746 wd_747 wd_748 (by decide) nr_X4_count) (
  e_more (s_istore (by decide +kernel) (by decide)) (
  e_more (s_aload_n (k := 0) (by decide +kernel) rfl) (
  e_more (s_iload_n (k := 1) (by decide +kernel) rfl) (
  e_more (s_iload_n (k := 2) (by decide +kernel) rfl) (
  e_more (e_SdSH (fun G hG => s_callSH (idx := 86) hG k_L_tryTeach (by decide +kernel) cl_L_tryTeach wd_1045 wd_1046 (by decide))) (
  e_more (s_istore (by decide +kernel) (by decide)) (
  e_more (s_iload_n (k := 3) (by decide +kernel) rfl) (
  e_more (s_if_le (off := 38) (by decide +kernel) (by decide)) (
  e_more (s_iload (by decide +kernel)) (
  e_more (s_sipush (n := (-7002)) (v := (-7002)) (by decide +kernel) (by decide)) (
  e_more (s_ic_ne (off := 28) (by decide +kernel) (by decide)) (
  e_more (s_aload_n (k := 0) (by decide +kernel) rfl) (
  e_more (s_iload_n (k := 1) (by decide +kernel) rfl) (
  e_more (s_iconst (n := 2) (v := 2) (by decide +kernel) (by decide)) (
  e_more (s_callV (c := 4) (idx := 37) nk_X4_pupilOf (by decide +kernel) cl_X4_pupilOf (by decide) rfl wd_769 wd_770 wd_771 (by decide) nr_X4_pupilOf) (
  e_more (s_iload (by decide +kernel)) (
  e_more (s_ic_ne (off := 17) (by decide +kernel) (by decide)) (
  e_more (s_aload_n (k := 0) (by decide +kernel) rfl) (
  e_no_more))))))))))))))))))))))))))))))))))))))))
def tb_L_teaches_1 : eTb := [(70, t_push (.inl 5) 1 70), (71, t_call 2 1 6 nw_X4_count 71), (74, t_ldI 6 2 74), (76, t_icn (fun a b => a = b) 83 76), (79, t_push (.inl 1) 1 79), (80, t_goto 84), (83, t_push (.inl 0) 1 83), (84, t_zret), (85, t_ldO 0 1 85), (86, t_ldO 0 1 86), (87, t_ldI 1 1 87), (88, t_push (.inl 4) 1 88), (89, t_call 3 1 6 nw_X4_pupilOf 89), (92, t_push (.inl 0) 1 92), (93, t_call 3 1 6 nw_X4_instrumentOf 93), (96, t_stI 9 2 96), (98, t_ldI 8 2 98), (100, t_ldI 4 2 100), (102, t_push (.inl 1) 1 102), (103, t_ii (fun a b => a + b) 103), (104, t_icn (fun a b => a = b) 228 104), (107, t_ldO 0 1 107), (108, t_ldI 1 1 108), (109, t_push (.inl 2) 1 109), (110, t_call 3 1 6 nw_X4_pupilOf 110), (113, t_ldI 8 2 113), (115, t_icn (fun a b => a = b) 228 115), (118, t_ldI 8 2 118), (120, t_ldI 2 1 120), (121, t_ifn (fun a => a = 0) 129 121), (124, t_push (.inl 8) 2 124), (126, t_goto 141), (129, t_ldI 2 1 129), (130, t_push (.inl 1) 1 130), (131, t_icn (fun a b => a = b) 139 131), (134, t_push (.inl 14) 2 134), (136, t_goto 141), (139, t_push (.inl 20) 2 139), (141, t_ic (fun a b => b < a) 228 141), (144, t_ldO 0 1 144)]
theorem st_L_teaches_1 : ∀ x ∈ tb_L_teaches_1, e_Sd e_rf RL i_L_teaches x.1 x.2 :=
  e_more (s_iconst (n := 5) (v := 5) (by decide +kernel) (by decide)) (
  e_more (s_callV (c := 4) (idx := 58) nk_X4_count (by decide +kernel) cl_X4_count (by decide) rfl wd_746 wd_747 wd_748 (by decide) nr_X4_count) (
  e_more (s_iload (by decide +kernel)) (
  e_more (s_ic_ne (off := 7) (by decide +kernel) (by decide)) (
  e_more (s_iconst (n := 1) (v := 1) (by decide +kernel) (by decide)) (
  e_more (s_goto (off := 4) (by decide +kernel) (by decide)) (
  e_more (s_iconst (n := 0) (v := 0) (by decide +kernel) (by decide)) (
  e_more (s_zret (by decide +kernel) rfl) (
  e_more (s_aload_n (k := 0) (by decide +kernel) rfl) (
  e_more (s_aload_n (k := 0) (by decide +kernel) rfl) (
  e_more (s_iload_n (k := 1) (by decide +kernel) rfl) (
  e_more (s_iconst (n := 4) (v := 4) (by decide +kernel) (by decide)) (
  e_more (s_callV (c := 4) (idx := 37) nk_X4_pupilOf (by decide +kernel) cl_X4_pupilOf (by decide) rfl wd_769 wd_770 wd_771 (by decide) nr_X4_pupilOf) (
  e_more (s_iconst (n := 0) (v := 0) (by decide +kernel) (by decide)) (
  e_more (s_callV (c := 4) (idx := 40) nk_X4_instrumentOf (by decide +kernel) cl_X4_instrumentOf (by decide) rfl wd_779 wd_780 wd_781 (by decide) nr_X4_instrumentOf) (
  e_more (s_istore (by decide +kernel) (by decide)) (
  e_more (s_iload (by decide +kernel)) (
  e_more (s_iload (by decide +kernel)) (
  e_more (s_iconst (n := 1) (v := 1) (by decide +kernel) (by decide)) (
  e_more (s_iadd (by decide +kernel)) (
  e_more (s_ic_ne (off := 124) (by decide +kernel) (by decide)) (
  e_more (s_aload_n (k := 0) (by decide +kernel) rfl) (
  e_more (s_iload_n (k := 1) (by decide +kernel) rfl) (
  e_more (s_iconst (n := 2) (v := 2) (by decide +kernel) (by decide)) (
  e_more (s_callV (c := 4) (idx := 37) nk_X4_pupilOf (by decide +kernel) cl_X4_pupilOf (by decide) rfl wd_769 wd_770 wd_771 (by decide) nr_X4_pupilOf) (
  e_more (s_iload (by decide +kernel)) (
  e_more (s_ic_ne (off := 113) (by decide +kernel) (by decide)) (
  e_more (s_iload (by decide +kernel)) (
  e_more (s_iload_n (k := 2) (by decide +kernel) rfl) (
  e_more (s_if_ne (off := 8) (by decide +kernel) (by decide)) (
  e_more (s_bipush (n := 8) (v := 8) (by decide +kernel) (by decide)) (
  e_more (s_goto (off := 15) (by decide +kernel) (by decide)) (
  e_more (s_iload_n (k := 2) (by decide +kernel) rfl) (
  e_more (s_iconst (n := 1) (v := 1) (by decide +kernel) (by decide)) (
  e_more (s_ic_ne (off := 8) (by decide +kernel) (by decide)) (
  e_more (s_bipush (n := 14) (v := 14) (by decide +kernel) (by decide)) (
  e_more (s_goto (off := 5) (by decide +kernel) (by decide)) (
  e_more (s_bipush (n := 20) (v := 20) (by decide +kernel) (by decide)) (
  e_more (s_ic_gt (off := 87) (by decide +kernel) (by decide)) (
  e_more (s_aload_n (k := 0) (by decide +kernel) rfl) (
  e_no_more))))))))))))))))))))))))))))))))))))))))
def tb_L_teaches_2 : eTb := [(145, t_ldI 1 1 145), (146, t_push (.inl 1) 1 146), (147, t_call 3 1 6 nw_X4_pupilOf 147), (150, t_ldI 5 2 150), (152, t_push (.inl 3) 1 152), (153, t_ii (fun a b => a - b) 153), (154, t_ldI 9 2 154), (156, t_ii (fun a b => a - b) 156), (157, t_icn (fun a b => a = b) 228 157), (160, t_ldO 0 1 160), (161, t_push (.inl 5) 1 161), (162, t_call 2 1 6 nw_X4_count 162), (165, t_ldI 6 2 165), (167, t_push (.inl 1) 1 167), (168, t_ii (fun a b => a + b) 168), (169, t_icn (fun a b => a = b) 228 169), (172, t_ldO 0 1 172), (173, t_push (.inl 8) 2 173), (175, t_call 2 1 6 nw_X4_count 175), (178, t_ldI 7 2 178), (180, t_ldI 2 1 180), (181, t_ifn (fun a => a = 0) 189 181), (184, t_push (.inl 10) 2 184), (186, t_goto 201), (189, t_ldI 2 1 189), (190, t_push (.inl 1) 1 190), (191, t_icn (fun a b => a = b) 199 191), (194, t_push (.inl 25) 2 194), (196, t_goto 201), (199, t_push (.inl 60) 2 199), (201, t_ii (fun a b => a - b) 201), (202, t_icn (fun a b => a = b) 228 202), (205, t_ldO 0 1 205), (206, t_ldI 1 1 206), (207, t_ldI 2 1 207), (208, t_call 3 1 6 nw_X4_noLesson 208), (211, t_if (fun a => a ≤ 0) 228 211), (214, t_ldO 0 1 214), (215, t_ldI 1 1 215), (216, t_push (.inl 5) 1 216)]
theorem st_L_teaches_2 : ∀ x ∈ tb_L_teaches_2, e_Sd e_rf RL i_L_teaches x.1 x.2 :=
  e_more (s_iload_n (k := 1) (by decide +kernel) rfl) (
  e_more (s_iconst (n := 1) (v := 1) (by decide +kernel) (by decide)) (
  e_more (s_callV (c := 4) (idx := 37) nk_X4_pupilOf (by decide +kernel) cl_X4_pupilOf (by decide) rfl wd_769 wd_770 wd_771 (by decide) nr_X4_pupilOf) (
  e_more (s_iload (by decide +kernel)) (
  e_more (s_iconst (n := 3) (v := 3) (by decide +kernel) (by decide)) (
  e_more (s_isub (by decide +kernel)) (
  e_more (s_iload (by decide +kernel)) (
  e_more (s_isub (by decide +kernel)) (
  e_more (s_ic_ne (off := 71) (by decide +kernel) (by decide)) (
  e_more (s_aload_n (k := 0) (by decide +kernel) rfl) (
  e_more (s_iconst (n := 5) (v := 5) (by decide +kernel) (by decide)) (
  e_more (s_callV (c := 4) (idx := 58) nk_X4_count (by decide +kernel) cl_X4_count (by decide) rfl wd_746 wd_747 wd_748 (by decide) nr_X4_count) (
  e_more (s_iload (by decide +kernel)) (
  e_more (s_iconst (n := 1) (v := 1) (by decide +kernel) (by decide)) (
  e_more (s_iadd (by decide +kernel)) (
  e_more (s_ic_ne (off := 59) (by decide +kernel) (by decide)) (
  e_more (s_aload_n (k := 0) (by decide +kernel) rfl) (
  e_more (s_bipush (n := 8) (v := 8) (by decide +kernel) (by decide)) (
  e_more (s_callV (c := 4) (idx := 58) nk_X4_count (by decide +kernel) cl_X4_count (by decide) rfl wd_746 wd_747 wd_748 (by decide) nr_X4_count) (
  e_more (s_iload (by decide +kernel)) (
  e_more (s_iload_n (k := 2) (by decide +kernel) rfl) (
  e_more (s_if_ne (off := 8) (by decide +kernel) (by decide)) (
  e_more (s_bipush (n := 10) (v := 10) (by decide +kernel) (by decide)) (
  e_more (s_goto (off := 15) (by decide +kernel) (by decide)) (
  e_more (s_iload_n (k := 2) (by decide +kernel) rfl) (
  e_more (s_iconst (n := 1) (v := 1) (by decide +kernel) (by decide)) (
  e_more (s_ic_ne (off := 8) (by decide +kernel) (by decide)) (
  e_more (s_bipush (n := 25) (v := 25) (by decide +kernel) (by decide)) (
  e_more (s_goto (off := 5) (by decide +kernel) (by decide)) (
  e_more (s_bipush (n := 60) (v := 60) (by decide +kernel) (by decide)) (
  e_more (s_isub (by decide +kernel)) (
  e_more (s_ic_ne (off := 26) (by decide +kernel) (by decide)) (
  e_more (s_aload_n (k := 0) (by decide +kernel) rfl) (
  e_more (s_iload_n (k := 1) (by decide +kernel) rfl) (
  e_more (s_iload_n (k := 2) (by decide +kernel) rfl) (
  e_more (s_callV (c := 4) (idx := 55) nk_X4_noLesson (by decide +kernel) cl_X4_noLesson (by decide) rfl wd_798 wd_799 wd_800 (by decide) nr_X4_noLesson) (
  e_more (s_if_le (off := 17) (by decide +kernel) (by decide)) (
  e_more (s_aload_n (k := 0) (by decide +kernel) rfl) (
  e_more (s_iload_n (k := 1) (by decide +kernel) rfl) (
  e_more (s_iconst (n := 5) (v := 5) (by decide +kernel) (by decide)) (
  e_no_more))))))))))))))))))))))))))))))))))))))))
def tb_L_teaches_3 : eTb := [(217, t_call 3 1 6 nw_X4_pupilOf 217), (220, t_push (.inl 1) 1 220), (221, t_icn (fun a b => a = b) 228 221), (224, t_push (.inl 1) 1 224), (225, t_goto 229), (228, t_push (.inl 0) 1 228), (229, t_zret)]
theorem st_L_teaches_3 : ∀ x ∈ tb_L_teaches_3, e_Sd e_rf RL i_L_teaches x.1 x.2 :=
  e_more (s_callV (c := 4) (idx := 37) nk_X4_pupilOf (by decide +kernel) cl_X4_pupilOf (by decide) rfl wd_769 wd_770 wd_771 (by decide) nr_X4_pupilOf) (
  e_more (s_iconst (n := 1) (v := 1) (by decide +kernel) (by decide)) (
  e_more (s_ic_ne (off := 7) (by decide +kernel) (by decide)) (
  e_more (s_iconst (n := 1) (v := 1) (by decide +kernel) (by decide)) (
  e_more (s_goto (off := 4) (by decide +kernel) (by decide)) (
  e_more (s_iconst (n := 0) (v := 0) (by decide +kernel) (by decide)) (
  e_more (s_zret (by decide +kernel) rfl) (
  e_no_more)))))))
def tb_L_teaches : eTb := tb_L_teaches_0 ++ tb_L_teaches_1 ++ tb_L_teaches_2 ++ tb_L_teaches_3
theorem st_L_teaches : ∀ x ∈ tb_L_teaches, e_Sd e_rf RL i_L_teaches x.1 x.2 := e_app (e_app (e_app (st_L_teaches_0) st_L_teaches_1) st_L_teaches_2) st_L_teaches_3
def w_L_teaches : eW := e_rn tb_L_teaches (iL i_L_teaches) 20 120
theorem k_L_teaches : e_OK e_rf i_L_teaches 20 120 w_L_teaches := k_rn (own := RL) ⟨by decide +kernel, rfl⟩ st_L_teaches
abbrev i_L_helpsSo : eI := (yL_helpsSo, cL_helpsSo, 7, (some .boolean), 12)
theorem cl_L_helpsSo : e_Cl i_L_helpsSo 3 := ⟨wd_1065, wd_14, ⟨by decide, by decide⟩, by decide +kernel, by decide⟩
def tb_L_helpsSo_0 : eTb := [(0, t_push (.inl (-1)) 1 0), (1, t_stI 3 1 1), (2, t_ldO 0 1 2), (3, t_ldI 1 1 3), (4, t_call 2 1 6 nw_X4_shortOf 4), (7, t_stI 4 2 7), (9, t_ldO 0 1 9), (10, t_ldI 1 1 10), (11, t_ldI 2 1 11), (12, t_call 3 1 6 nw_X4_helps 12), (15, t_stI 5 2 15), (17, t_ldO 0 1 17), (18, t_push (.inl 0) 1 18), (19, t_call 2 1 6 nw_X4_count 19), (22, t_push (.inl 1) 1 22), (23, t_ii (fun a b => a - b) 23), (24, t_stI 6 2 24), (26, t_ldI 6 2 26), (28, t_if (fun a => a < 0) 73 28), (31, t_ldO 0 1 31), (32, t_ldI 6 2 32), (34, t_ldI 2 1 34), (35, t_call 3 1 6 w_L_tryTeach 35), (38, t_if (fun a => a < 0) 67 38), (41, t_ldO 0 1 41), (42, t_ldI 1 1 42), (43, t_call 2 1 6 nw_X4_shortOf 43), (46, t_ldI 4 2 46), (48, t_ic (fun a b => b ≤ a) 56 48), (51, t_ldI 6 2 51), (53, t_goto 57), (56, t_ldI 3 1 56), (57, t_stI 3 1 57), (58, t_ldO 0 1 58), (59, t_call 1 1 6 nw_X4_undo 59), (62, t_if (fun a => 0 ≤ a) 67 62), (65, t_push (.inl 0) 1 65), (66, t_zret), (67, t_iinc 6 (-1) 67), (70, t_goto 26)]
theorem st_L_helpsSo_0 : ∀ x ∈ tb_L_helpsSo_0, e_Sd e_rf RL i_L_helpsSo x.1 x.2 :=
  e_more (s_iconst (n := (-1)) (v := (-1)) (by decide +kernel) (by decide)) (
  e_more (s_istore_n (k := 3) (by decide +kernel) rfl (by decide)) (
  e_more (s_aload_n (k := 0) (by decide +kernel) rfl) (
  e_more (s_iload_n (k := 1) (by decide +kernel) rfl) (
  e_more (s_callV (c := 4) (idx := 43) nk_X4_shortOf (by decide +kernel) cl_X4_shortOf (by decide) rfl wd_819 wd_820 wd_821 (by decide) nr_X4_shortOf) (
  e_more (s_istore (by decide +kernel) (by decide)) (
  e_more (s_aload_n (k := 0) (by decide +kernel) rfl) (
  e_more (s_iload_n (k := 1) (by decide +kernel) rfl) (
  e_more (s_iload_n (k := 2) (by decide +kernel) rfl) (
  e_more (s_callV (c := 4) (idx := 52) nk_X4_helps (by decide +kernel) cl_X4_helps (by decide) rfl wd_826 wd_827 wd_828 (by decide) nr_X4_helps) (
  e_more (s_istore (by decide +kernel) (by decide)) (
  e_more (s_aload_n (k := 0) (by decide +kernel) rfl) (
  e_more (s_iconst (n := 0) (v := 0) (by decide +kernel) (by decide)) (
  e_more (s_callV (c := 4) (idx := 58) nk_X4_count (by decide +kernel) cl_X4_count (by decide) rfl wd_746 wd_747 wd_748 (by decide) nr_X4_count) (
  e_more (s_iconst (n := 1) (v := 1) (by decide +kernel) (by decide)) (
  e_more (s_isub (by decide +kernel)) (
  e_more (s_istore (by decide +kernel) (by decide)) (
  e_more (s_iload (by decide +kernel)) (
  e_more (s_if_lt (off := 45) (by decide +kernel) (by decide)) (
  e_more (s_aload_n (k := 0) (by decide +kernel) rfl) (
  e_more (s_iload (by decide +kernel)) (
  e_more (s_iload_n (k := 2) (by decide +kernel) rfl) (
  e_more (e_SdSH (fun G hG => s_callSH (idx := 86) hG k_L_tryTeach (by decide +kernel) cl_L_tryTeach wd_1045 wd_1046 (by decide))) (
  e_more (s_if_lt (off := 29) (by decide +kernel) (by decide)) (
  e_more (s_aload_n (k := 0) (by decide +kernel) rfl) (
  e_more (s_iload_n (k := 1) (by decide +kernel) rfl) (
  e_more (s_callV (c := 4) (idx := 43) nk_X4_shortOf (by decide +kernel) cl_X4_shortOf (by decide) rfl wd_819 wd_820 wd_821 (by decide) nr_X4_shortOf) (
  e_more (s_iload (by decide +kernel)) (
  e_more (s_ic_ge (off := 8) (by decide +kernel) (by decide)) (
  e_more (s_iload (by decide +kernel)) (
  e_more (s_goto (off := 4) (by decide +kernel) (by decide)) (
  e_more (s_iload_n (k := 3) (by decide +kernel) rfl) (
  e_more (s_istore_n (k := 3) (by decide +kernel) rfl (by decide)) (
  e_more (s_aload_n (k := 0) (by decide +kernel) rfl) (
  e_more (s_callV (c := 4) (idx := 90) nk_X4_undo (by decide +kernel) cl_X4_undo (by decide) rfl wd_1066 wd_1067 wd_1068 (by decide) nr_X4_undo) (
  e_more (s_if_ge (off := 5) (by decide +kernel) (by decide)) (
  e_more (s_iconst (n := 0) (v := 0) (by decide +kernel) (by decide)) (
  e_more (s_zret (by decide +kernel) rfl) (
  e_more (s_iinc (z := (-1)) (n := (-1)) (by decide +kernel) (by decide) (by decide)) (
  e_more (s_goto (off := (-44)) (by decide +kernel) (by decide)) (
  e_no_more))))))))))))))))))))))))))))))))))))))))
def tb_L_helpsSo_1 : eTb := [(73, t_ldI 5 2 73), (75, t_ldI 3 1 75), (76, t_icn (fun a b => a = b) 83 76), (79, t_push (.inl 1) 1 79), (80, t_goto 84), (83, t_push (.inl 0) 1 83), (84, t_zret)]
theorem st_L_helpsSo_1 : ∀ x ∈ tb_L_helpsSo_1, e_Sd e_rf RL i_L_helpsSo x.1 x.2 :=
  e_more (s_iload (by decide +kernel)) (
  e_more (s_iload_n (k := 3) (by decide +kernel) rfl) (
  e_more (s_ic_ne (off := 7) (by decide +kernel) (by decide)) (
  e_more (s_iconst (n := 1) (v := 1) (by decide +kernel) (by decide)) (
  e_more (s_goto (off := 4) (by decide +kernel) (by decide)) (
  e_more (s_iconst (n := 0) (v := 0) (by decide +kernel) (by decide)) (
  e_more (s_zret (by decide +kernel) rfl) (
  e_no_more)))))))
def tb_L_helpsSo : eTb := tb_L_helpsSo_0 ++ tb_L_helpsSo_1
theorem st_L_helpsSo : ∀ x ∈ tb_L_helpsSo, e_Sd e_rf RL i_L_helpsSo x.1 x.2 := e_app (st_L_helpsSo_0) st_L_helpsSo_1
def w_L_helpsSo : eW := e_rn tb_L_helpsSo (iL i_L_helpsSo) 40 240
theorem k_L_helpsSo : e_OK e_rf i_L_helpsSo 40 240 w_L_helpsSo := k_rn (own := RL) ⟨by decide +kernel, rfl⟩ st_L_helpsSo
abbrev i_L_act : eI := (yL_act, cL_act, 15, (some .boolean), 13)
theorem cl_L_act : e_Cl i_L_act 3 := ⟨wd_870, wd_14, ⟨by decide, by decide⟩, by decide +kernel, by decide⟩
def tb_L_act_0 : eTb := [(0, t_ldO 0 1 0), (1, t_push (.inl 0) 1 1), (2, t_call 2 1 6 nw_X4_count 2), (5, t_stI 3 1 5), (6, t_ldO 0 1 6), (7, t_push (.inl 1) 1 7), (8, t_call 2 1 6 nw_X4_count 8), (11, t_stI 4 2 11), (13, t_ldI 3 1 13), (14, t_ifn (fun a => a = 0) 21 14), (17, t_push (.inl 0) 1 17), (18, t_goto 26), (21, t_ldI 2 1 21), (22, t_ldI 3 1 22), (23, t_call0 2 w_L_low 23), (26, t_stI 5 2 26), (28, t_ldI 4 2 28), (30, t_ifn (fun a => a = 0) 37 30), (33, t_push (.inl 0) 1 33), (34, t_goto 45), (37, t_ldI 2 1 37), (38, t_push (.inl 4) 1 38), (39, t_ii (fun a b => a >>> (b &&& 31)) 39), (40, t_ldI 4 2 40), (42, t_call0 2 w_L_low 42), (45, t_stI 6 2 45), (47, t_ldI 1 1 47), (48, t_push (.inl 20) 2 48), (50, t_call0 2 w_L_low 50), (53, t_stI 7 2 53)]
theorem st_L_act_0 : ∀ x ∈ tb_L_act_0, e_Sd e_rf RL i_L_act x.1 x.2 :=
  e_more (s_aload_n (k := 0) (by decide +kernel) rfl) (
  e_more (s_iconst (n := 0) (v := 0) (by decide +kernel) (by decide)) (
  e_more (s_callV (c := 4) (idx := 58) nk_X4_count (by decide +kernel) cl_X4_count (by decide) rfl wd_746 wd_747 wd_748 (by decide) nr_X4_count) (
  e_more (s_istore_n (k := 3) (by decide +kernel) rfl (by decide)) (
  e_more (s_aload_n (k := 0) (by decide +kernel) rfl) (
  e_more (s_iconst (n := 1) (v := 1) (by decide +kernel) (by decide)) (
  e_more (s_callV (c := 4) (idx := 58) nk_X4_count (by decide +kernel) cl_X4_count (by decide) rfl wd_746 wd_747 wd_748 (by decide) nr_X4_count) (
  e_more (s_istore (by decide +kernel) (by decide)) (
  e_more (s_iload_n (k := 3) (by decide +kernel) rfl) (
  e_more (s_if_ne (off := 7) (by decide +kernel) (by decide)) (
  e_more (s_iconst (n := 0) (v := 0) (by decide +kernel) (by decide)) (
  e_more (s_goto (off := 8) (by decide +kernel) (by decide)) (
  e_more (s_iload_n (k := 2) (by decide +kernel) rfl) (
  e_more (s_iload_n (k := 3) (by decide +kernel) rfl) (
  e_more (e_call0 (s_callS (idx := 93) k_L_low (by decide +kernel) cl_L_low wd_871 wd_872 (by decide))) (
  e_more (s_istore (by decide +kernel) (by decide)) (
  e_more (s_iload (by decide +kernel)) (
  e_more (s_if_ne (off := 7) (by decide +kernel) (by decide)) (
  e_more (s_iconst (n := 0) (v := 0) (by decide +kernel) (by decide)) (
  e_more (s_goto (off := 11) (by decide +kernel) (by decide)) (
  e_more (s_iload_n (k := 2) (by decide +kernel) rfl) (
  e_more (s_iconst (n := 4) (v := 4) (by decide +kernel) (by decide)) (
  e_more (s_ishr (by decide +kernel)) (
  e_more (s_iload (by decide +kernel)) (
  e_more (e_call0 (s_callS (idx := 93) k_L_low (by decide +kernel) cl_L_low wd_871 wd_872 (by decide))) (
  e_more (s_istore (by decide +kernel) (by decide)) (
  e_more (s_iload_n (k := 1) (by decide +kernel) rfl) (
  e_more (s_bipush (n := 20) (v := 20) (by decide +kernel) (by decide)) (
  e_more (e_call0 (s_callS (idx := 93) k_L_low (by decide +kernel) cl_L_low wd_871 wd_872 (by decide))) (
  e_more (s_istore (by decide +kernel) (by decide)) (
  e_no_more))))))))))))))))))))))))))))))
def tb_L_act_1 : eTb := [(55, t_ldI 7 2 55), (57, t_push (.inl 2) 1 57), (58, t_ic (fun a b => a < b) 65 58), (61, t_ldI 3 1 61), (62, t_ifn (fun a => a = 0) 118 62), (65, t_ldI 3 1 65), (66, t_push (.inl 10) 2 66), (68, t_ic (fun a b => a = b) 112 68), (71, t_ldO 0 1 71), (72, t_push (.inl 5) 1 72), (73, t_ldI 2 1 73), (74, t_push (.inl 26) 2 74), (76, t_call0 2 w_L_low 76), (79, t_ii (fun a b => a + b) 79), (80, t_call 2 1 6 nw_X4_pupil 80), (83, t_ldI 3 1 83), (84, t_icn (fun a b => a = b) 116 84), (87, t_ldO 0 1 87), (88, t_ldI 3 1 88), (89, t_push (.inl 2) 1 89), (90, t_call 3 1 6 nw_X4_pupilOf 90), (93, t_push (.inl 1) 1 93), (94, t_icn (fun a b => a = b) 116 94), (97, t_ldO 0 1 97), (98, t_ldI 3 1 98), (99, t_push (.inl 1) 1 99), (100, t_call 3 1 6 nw_X4_pupilOf 100), (103, t_ldO 0 1 103), (104, t_ldI 3 1 104), (105, t_push (.inl 0) 1 105), (106, t_call 3 1 6 nw_X4_pupilOf 106), (109, t_icn (fun a b => a = b) 116 109), (112, t_push (.inl 1) 1 112), (113, t_goto 117), (116, t_push (.inl 0) 1 116), (117, t_zret)]
theorem st_L_act_1 : ∀ x ∈ tb_L_act_1, e_Sd e_rf RL i_L_act x.1 x.2 :=
  e_more (s_iload (by decide +kernel)) (
  e_more (s_iconst (n := 2) (v := 2) (by decide +kernel) (by decide)) (
  e_more (s_ic_lt (off := 7) (by decide +kernel) (by decide)) (
  e_more (s_iload_n (k := 3) (by decide +kernel) rfl) (
  e_more (s_if_ne (off := 56) (by decide +kernel) (by decide)) (
  e_more (s_iload_n (k := 3) (by decide +kernel) rfl) (
  e_more (s_bipush (n := 10) (v := 10) (by decide +kernel) (by decide)) (
  e_more (s_ic_eq (off := 44) (by decide +kernel) (by decide)) (
  e_more (s_aload_n (k := 0) (by decide +kernel) rfl) (
  e_more (s_iconst (n := 5) (v := 5) (by decide +kernel) (by decide)) (
  e_more (s_iload_n (k := 2) (by decide +kernel) rfl) (
  e_more (s_bipush (n := 26) (v := 26) (by decide +kernel) (by decide)) (
  e_more (e_call0 (s_callS (idx := 93) k_L_low (by decide +kernel) cl_L_low wd_871 wd_872 (by decide))) (
  e_more (s_iadd (by decide +kernel)) (
  e_more (s_callV (c := 4) (idx := 96) nk_X4_pupil (by decide +kernel) cl_X4_pupil (by decide) rfl wd_875 wd_876 wd_877 (by decide) nr_X4_pupil) (
  e_more (s_iload_n (k := 3) (by decide +kernel) rfl) (
  e_more (s_ic_ne (off := 32) (by decide +kernel) (by decide)) (
  e_more (s_aload_n (k := 0) (by decide +kernel) rfl) (
  e_more (s_iload_n (k := 3) (by decide +kernel) rfl) (
  e_more (s_iconst (n := 2) (v := 2) (by decide +kernel) (by decide)) (
  e_more (s_callV (c := 4) (idx := 37) nk_X4_pupilOf (by decide +kernel) cl_X4_pupilOf (by decide) rfl wd_769 wd_770 wd_771 (by decide) nr_X4_pupilOf) (
  e_more (s_iconst (n := 1) (v := 1) (by decide +kernel) (by decide)) (
  e_more (s_ic_ne (off := 22) (by decide +kernel) (by decide)) (
  e_more (s_aload_n (k := 0) (by decide +kernel) rfl) (
  e_more (s_iload_n (k := 3) (by decide +kernel) rfl) (
  e_more (s_iconst (n := 1) (v := 1) (by decide +kernel) (by decide)) (
  e_more (s_callV (c := 4) (idx := 37) nk_X4_pupilOf (by decide +kernel) cl_X4_pupilOf (by decide) rfl wd_769 wd_770 wd_771 (by decide) nr_X4_pupilOf) (
  e_more (s_aload_n (k := 0) (by decide +kernel) rfl) (
  e_more (s_iload_n (k := 3) (by decide +kernel) rfl) (
  e_more (s_iconst (n := 0) (v := 0) (by decide +kernel) (by decide)) (
  e_more (s_callV (c := 4) (idx := 37) nk_X4_pupilOf (by decide +kernel) cl_X4_pupilOf (by decide) rfl wd_769 wd_770 wd_771 (by decide) nr_X4_pupilOf) (
  e_more (s_ic_ne (off := 7) (by decide +kernel) (by decide)) (
  e_more (s_iconst (n := 1) (v := 1) (by decide +kernel) (by decide)) (
  e_more (s_goto (off := 4) (by decide +kernel) (by decide)) (
  e_more (s_iconst (n := 0) (v := 0) (by decide +kernel) (by decide)) (
  e_more (s_zret (by decide +kernel) rfl) (
  e_no_more))))))))))))))))))))))))))))))))))))
def tb_L_act_2 : eTb := [(118, t_ldI 7 2 118), (120, t_push (.inl 4) 1 120), (121, t_ic (fun a b => a < b) 129 121), (124, t_ldI 4 2 124), (126, t_ifn (fun a => a = 0) 181 126), (129, t_ldI 4 2 129), (131, t_push (.inl 10) 2 131), (133, t_ic (fun a b => a = b) 175 133), (136, t_ldO 0 1 136), (137, t_ldI 2 1 137), (138, t_ldI 2 1 138), (139, t_push (.inl 4) 1 139), (140, t_ii (fun a b => a >>> (b &&& 31)) 140), (141, t_push (.inl 2) 1 141), (142, t_call0 2 w_L_low 142), (145, t_ifn (fun a => a = 0) 152 145), (148, t_push (.inl 4) 1 148), (149, t_goto 153), (152, t_push (.inl 2) 1 152), (153, t_call0 2 w_L_low 153), (156, t_call 2 1 6 nw_X4_instrument 156), (159, t_ldI 4 2 159), (161, t_icn (fun a b => a = b) 179 161), (164, t_ldO 0 1 164), (165, t_ldI 4 2 165), (167, t_push (.inl 2) 1 167), (168, t_call 3 1 6 nw_X4_instrumentOf 168), (171, t_push (.inl (-1)) 1 171), (172, t_icn (fun a b => a = b) 179 172), (175, t_push (.inl 1) 1 175), (176, t_goto 180), (179, t_push (.inl 0) 1 179), (180, t_zret)]
theorem st_L_act_2 : ∀ x ∈ tb_L_act_2, e_Sd e_rf RL i_L_act x.1 x.2 :=
  e_more (s_iload (by decide +kernel)) (
  e_more (s_iconst (n := 4) (v := 4) (by decide +kernel) (by decide)) (
  e_more (s_ic_lt (off := 8) (by decide +kernel) (by decide)) (
  e_more (s_iload (by decide +kernel)) (
  e_more (s_if_ne (off := 55) (by decide +kernel) (by decide)) (
  e_more (s_iload (by decide +kernel)) (
  e_more (s_bipush (n := 10) (v := 10) (by decide +kernel) (by decide)) (
  e_more (s_ic_eq (off := 42) (by decide +kernel) (by decide)) (
  e_more (s_aload_n (k := 0) (by decide +kernel) rfl) (
  e_more (s_iload_n (k := 2) (by decide +kernel) rfl) (
  e_more (s_iload_n (k := 2) (by decide +kernel) rfl) (
  e_more (s_iconst (n := 4) (v := 4) (by decide +kernel) (by decide)) (
  e_more (s_ishr (by decide +kernel)) (
  e_more (s_iconst (n := 2) (v := 2) (by decide +kernel) (by decide)) (
  e_more (e_call0 (s_callS (idx := 93) k_L_low (by decide +kernel) cl_L_low wd_871 wd_872 (by decide))) (
  e_more (s_if_ne (off := 7) (by decide +kernel) (by decide)) (
  e_more (s_iconst (n := 4) (v := 4) (by decide +kernel) (by decide)) (
  e_more (s_goto (off := 4) (by decide +kernel) (by decide)) (
  e_more (s_iconst (n := 2) (v := 2) (by decide +kernel) (by decide)) (
  e_more (e_call0 (s_callS (idx := 93) k_L_low (by decide +kernel) cl_L_low wd_871 wd_872 (by decide))) (
  e_more (s_callV (c := 4) (idx := 99) nk_X4_instrument (by decide +kernel) cl_X4_instrument (by decide) rfl wd_925 wd_926 wd_927 (by decide) nr_X4_instrument) (
  e_more (s_iload (by decide +kernel)) (
  e_more (s_ic_ne (off := 18) (by decide +kernel) (by decide)) (
  e_more (s_aload_n (k := 0) (by decide +kernel) rfl) (
  e_more (s_iload (by decide +kernel)) (
  e_more (s_iconst (n := 2) (v := 2) (by decide +kernel) (by decide)) (
  e_more (s_callV (c := 4) (idx := 40) nk_X4_instrumentOf (by decide +kernel) cl_X4_instrumentOf (by decide) rfl wd_779 wd_780 wd_781 (by decide) nr_X4_instrumentOf) (
  e_more (s_iconst (n := (-1)) (v := (-1)) (by decide +kernel) (by decide)) (
  e_more (s_ic_ne (off := 7) (by decide +kernel) (by decide)) (
  e_more (s_iconst (n := 1) (v := 1) (by decide +kernel) (by decide)) (
  e_more (s_goto (off := 4) (by decide +kernel) (by decide)) (
  e_more (s_iconst (n := 0) (v := 0) (by decide +kernel) (by decide)) (
  e_more (s_zret (by decide +kernel) rfl) (
  e_no_more)))))))))))))))))))))))))))))))))
def tb_L_act_3 : eTb := [(181, t_ldI 7 2 181), (183, t_push (.inl 8) 2 183), (185, t_ic (fun a b => b ≤ a) 300 185), (188, t_ldO 0 1 188), (189, t_ldI 6 2 189), (191, t_ldI 5 2 191), (193, t_call 3 1 6 nw_X4_noLoan 193), (196, t_stI 8 2 196), (198, t_ldO 0 1 198), (199, t_push (.inl 2) 1 199), (200, t_call 2 1 6 nw_X4_count 200), (203, t_stI 9 2 203), (205, t_ldO 0 1 205), (206, t_ldI 6 2 206), (208, t_ldI 5 2 208), (210, t_call 3 1 6 w_L_tryLend 210), (213, t_stI 10 2 213), (215, t_ldI 8 2 215), (217, t_if (fun a => a ≤ 0) 246 217), (220, t_ldI 10 2 220), (222, t_push (.inl (-7002)) 3 222), (225, t_icn (fun a b => a = b) 242 225), (228, t_ldO 0 1 228), (229, t_push (.inl 2) 1 229), (230, t_call 2 1 6 nw_X4_count 230), (233, t_ldI 9 2 233), (235, t_icn (fun a b => a = b) 242 235), (238, t_push (.inl 1) 1 238), (239, t_goto 299), (242, t_push (.inl 0) 1 242), (243, t_goto 299), (246, t_ldI 10 2 246), (248, t_ldI 9 2 248), (250, t_push (.inl 1) 1 250), (251, t_ii (fun a b => a + b) 251), (252, t_icn (fun a b => a = b) 298 252), (255, t_ldO 0 1 255), (256, t_ldI 5 2 256), (258, t_push (.inl 4) 1 258), (259, t_call 3 1 6 nw_X4_pupilOf 259), (262, t_ldI 6 2 262), (264, t_icn (fun a b => a = b) 298 264), (267, t_ldO 0 1 267), (268, t_ldI 9 2 268), (270, t_call 2 1 6 nw_X4_loan 270), (273, t_push (.inl 10) 2 273), (275, t_ldI 6 2 275), (277, t_ii (fun a b => a * b) 277), (278, t_ldI 5 2 278), (280, t_ii (fun a b => a + b) 280), (281, t_icn (fun a b => a = b) 298 281), (284, t_ldO 0 1 284), (285, t_ldI 6 2 285), (287, t_push (.inl 4) 1 287), (288, t_call 3 1 6 nw_X4_instrumentOf 288), (291, t_ifn (fun a => a = 0) 298 291), (294, t_push (.inl 1) 1 294), (295, t_goto 299), (298, t_push (.inl 0) 1 298), (299, t_zret)]
theorem st_L_act_3 : ∀ x ∈ tb_L_act_3, e_Sd e_rf RL i_L_act x.1 x.2 :=
  e_more (s_iload (by decide +kernel)) (
  e_more (s_bipush (n := 8) (v := 8) (by decide +kernel) (by decide)) (
  e_more (s_ic_ge (off := 115) (by decide +kernel) (by decide)) (
  e_more (s_aload_n (k := 0) (by decide +kernel) rfl) (
  e_more (s_iload (by decide +kernel)) (
  e_more (s_iload (by decide +kernel)) (
  e_more (s_callV (c := 4) (idx := 61) nk_X4_noLoan (by decide +kernel) cl_X4_noLoan (by decide) rfl wd_848 wd_849 wd_850 (by decide) nr_X4_noLoan) (
  e_more (s_istore (by decide +kernel) (by decide)) (
  e_more (s_aload_n (k := 0) (by decide +kernel) rfl) (
  e_more (s_iconst (n := 2) (v := 2) (by decide +kernel) (by decide)) (
  e_more (s_callV (c := 4) (idx := 58) nk_X4_count (by decide +kernel) cl_X4_count (by decide) rfl wd_746 wd_747 wd_748 (by decide) nr_X4_count) (
  e_more (s_istore (by decide +kernel) (by decide)) (
  e_more (s_aload_n (k := 0) (by decide +kernel) rfl) (
  e_more (s_iload (by decide +kernel)) (
  e_more (s_iload (by decide +kernel)) (
  e_more (e_SdSH (fun G hG => s_callSH (idx := 102) hG k_L_tryLend (by decide +kernel) cl_L_tryLend wd_943 wd_944 (by decide))) (
  e_more (s_istore (by decide +kernel) (by decide)) (
  e_more (s_iload (by decide +kernel)) (
  e_more (s_if_le (off := 29) (by decide +kernel) (by decide)) (
  e_more (s_iload (by decide +kernel)) (
  e_more (s_sipush (n := (-7002)) (v := (-7002)) (by decide +kernel) (by decide)) (
  e_more (s_ic_ne (off := 17) (by decide +kernel) (by decide)) (
  e_more (s_aload_n (k := 0) (by decide +kernel) rfl) (
  e_more (s_iconst (n := 2) (v := 2) (by decide +kernel) (by decide)) (
  e_more (s_callV (c := 4) (idx := 58) nk_X4_count (by decide +kernel) cl_X4_count (by decide) rfl wd_746 wd_747 wd_748 (by decide) nr_X4_count) (
  e_more (s_iload (by decide +kernel)) (
  e_more (s_ic_ne (off := 7) (by decide +kernel) (by decide)) (
  e_more (s_iconst (n := 1) (v := 1) (by decide +kernel) (by decide)) (
  e_more (s_goto (off := 60) (by decide +kernel) (by decide)) (
  e_more (s_iconst (n := 0) (v := 0) (by decide +kernel) (by decide)) (
  e_more (s_goto (off := 56) (by decide +kernel) (by decide)) (
  e_more (s_iload (by decide +kernel)) (
  e_more (s_iload (by decide +kernel)) (
  e_more (s_iconst (n := 1) (v := 1) (by decide +kernel) (by decide)) (
  e_more (s_iadd (by decide +kernel)) (
  e_more (s_ic_ne (off := 46) (by decide +kernel) (by decide)) (
  e_more (s_aload_n (k := 0) (by decide +kernel) rfl) (
  e_more (s_iload (by decide +kernel)) (
  e_more (s_iconst (n := 4) (v := 4) (by decide +kernel) (by decide)) (
  e_more (s_callV (c := 4) (idx := 37) nk_X4_pupilOf (by decide +kernel) cl_X4_pupilOf (by decide) rfl wd_769 wd_770 wd_771 (by decide) nr_X4_pupilOf) (
  e_more (s_iload (by decide +kernel)) (
  e_more (s_ic_ne (off := 34) (by decide +kernel) (by decide)) (
  e_more (s_aload_n (k := 0) (by decide +kernel) rfl) (
  e_more (s_iload (by decide +kernel)) (
  e_more (s_callV (c := 4) (idx := 64) nk_X4_loan (by decide +kernel) cl_X4_loan (by decide) rfl wd_859 wd_860 wd_861 (by decide) nr_X4_loan) (
  e_more (s_bipush (n := 10) (v := 10) (by decide +kernel) (by decide)) (
  e_more (s_iload (by decide +kernel)) (
  e_more (s_imul (by decide +kernel)) (
  e_more (s_iload (by decide +kernel)) (
  e_more (s_iadd (by decide +kernel)) (
  e_more (s_ic_ne (off := 17) (by decide +kernel) (by decide)) (
  e_more (s_aload_n (k := 0) (by decide +kernel) rfl) (
  e_more (s_iload (by decide +kernel)) (
  e_more (s_iconst (n := 4) (v := 4) (by decide +kernel) (by decide)) (
  e_more (s_callV (c := 4) (idx := 40) nk_X4_instrumentOf (by decide +kernel) cl_X4_instrumentOf (by decide) rfl wd_779 wd_780 wd_781 (by decide) nr_X4_instrumentOf) (
  e_more (s_if_ne (off := 7) (by decide +kernel) (by decide)) (
  e_more (s_iconst (n := 1) (v := 1) (by decide +kernel) (by decide)) (
  e_more (s_goto (off := 4) (by decide +kernel) (by decide)) (
  e_more (s_iconst (n := 0) (v := 0) (by decide +kernel) (by decide)) (
  e_more (s_zret (by decide +kernel) rfl) (
  e_no_more))))))))))))))))))))))))))))))))))))))))))))))))))))))))))))
def tb_L_act_4 : eTb := [(300, t_ldI 7 2 300), (302, t_push (.inl 8) 2 302), (304, t_icn (fun a b => a = b) 398 304), (307, t_ldO 0 1 307), (308, t_push (.inl 14) 2 308), (310, t_call 2 1 6 nw_X4_count 310), (313, t_stI 8 2 313), (315, t_ldO 0 1 315), (316, t_ldI 6 2 316), (318, t_push (.inl 4) 1 318), (319, t_call 3 1 6 nw_X4_instrumentOf 319), (322, t_stI 9 2 322), (324, t_ldO 0 1 324), (325, t_ldI 6 2 325), (327, t_call 2 1 6 w_L_tryBack 327), (330, t_stI 10 2 330), (332, t_ldI 9 2 332), (334, t_if (fun a => 0 ≤ a) 353 334), (337, t_ldI 10 2 337), (339, t_push (.inl (-7002)) 3 339), (342, t_icn (fun a b => a = b) 349 342), (345, t_push (.inl 1) 1 345), (346, t_goto 397), (349, t_push (.inl 0) 1 349), (350, t_goto 397), (353, t_ldI 10 2 353), (355, t_ldO 0 1 355), (356, t_push (.inl 15) 2 356), (358, t_call 2 1 6 nw_X4_count 358), (361, t_ldI 9 2 361), (363, t_ii (fun a b => a * b) 363), (364, t_icn (fun a b => a = b) 396 364), (367, t_ldO 0 1 367), (368, t_push (.inl 14) 2 368), (370, t_call 2 1 6 nw_X4_count 370), (373, t_ldI 8 2 373), (375, t_ldI 10 2 375), (377, t_ii (fun a b => a + b) 377), (378, t_icn (fun a b => a = b) 396 378), (381, t_ldO 0 1 381), (382, t_ldI 6 2 382), (384, t_push (.inl 2) 1 384), (385, t_call 3 1 6 nw_X4_instrumentOf 385), (388, t_push (.inl (-1)) 1 388), (389, t_icn (fun a b => a = b) 396 389), (392, t_push (.inl 1) 1 392), (393, t_goto 397), (396, t_push (.inl 0) 1 396), (397, t_zret)]
theorem st_L_act_4 : ∀ x ∈ tb_L_act_4, e_Sd e_rf RL i_L_act x.1 x.2 :=
  e_more (s_iload (by decide +kernel)) (
  e_more (s_bipush (n := 8) (v := 8) (by decide +kernel) (by decide)) (
  e_more (s_ic_ne (off := 94) (by decide +kernel) (by decide)) (
  e_more (s_aload_n (k := 0) (by decide +kernel) rfl) (
  e_more (s_bipush (n := 14) (v := 14) (by decide +kernel) (by decide)) (
  e_more (s_callV (c := 4) (idx := 58) nk_X4_count (by decide +kernel) cl_X4_count (by decide) rfl wd_746 wd_747 wd_748 (by decide) nr_X4_count) (
  e_more (s_istore (by decide +kernel) (by decide)) (
  e_more (s_aload_n (k := 0) (by decide +kernel) rfl) (
  e_more (s_iload (by decide +kernel)) (
  e_more (s_iconst (n := 4) (v := 4) (by decide +kernel) (by decide)) (
  e_more (s_callV (c := 4) (idx := 40) nk_X4_instrumentOf (by decide +kernel) cl_X4_instrumentOf (by decide) rfl wd_779 wd_780 wd_781 (by decide) nr_X4_instrumentOf) (
  e_more (s_istore (by decide +kernel) (by decide)) (
  e_more (s_aload_n (k := 0) (by decide +kernel) rfl) (
  e_more (s_iload (by decide +kernel)) (
  e_more (e_SdSH (fun G hG => s_callSH (idx := 105) hG k_L_tryBack (by decide +kernel) cl_L_tryBack wd_958 wd_959 (by decide))) (
  e_more (s_istore (by decide +kernel) (by decide)) (
  e_more (s_iload (by decide +kernel)) (
  e_more (s_if_ge (off := 19) (by decide +kernel) (by decide)) (
  e_more (s_iload (by decide +kernel)) (
  e_more (s_sipush (n := (-7002)) (v := (-7002)) (by decide +kernel) (by decide)) (
  e_more (s_ic_ne (off := 7) (by decide +kernel) (by decide)) (
  e_more (s_iconst (n := 1) (v := 1) (by decide +kernel) (by decide)) (
  e_more (s_goto (off := 51) (by decide +kernel) (by decide)) (
  e_more (s_iconst (n := 0) (v := 0) (by decide +kernel) (by decide)) (
  e_more (s_goto (off := 47) (by decide +kernel) (by decide)) (
  e_more (s_iload (by decide +kernel)) (
  e_more (s_aload_n (k := 0) (by decide +kernel) rfl) (
  e_more (s_bipush (n := 15) (v := 15) (by decide +kernel) (by decide)) (
  e_more (s_callV (c := 4) (idx := 58) nk_X4_count (by decide +kernel) cl_X4_count (by decide) rfl wd_746 wd_747 wd_748 (by decide) nr_X4_count) (
  e_more (s_iload (by decide +kernel)) (
  e_more (s_imul (by decide +kernel)) (
  e_more (s_ic_ne (off := 32) (by decide +kernel) (by decide)) (
  e_more (s_aload_n (k := 0) (by decide +kernel) rfl) (
  e_more (s_bipush (n := 14) (v := 14) (by decide +kernel) (by decide)) (
  e_more (s_callV (c := 4) (idx := 58) nk_X4_count (by decide +kernel) cl_X4_count (by decide) rfl wd_746 wd_747 wd_748 (by decide) nr_X4_count) (
  e_more (s_iload (by decide +kernel)) (
  e_more (s_iload (by decide +kernel)) (
  e_more (s_iadd (by decide +kernel)) (
  e_more (s_ic_ne (off := 18) (by decide +kernel) (by decide)) (
  e_more (s_aload_n (k := 0) (by decide +kernel) rfl) (
  e_more (s_iload (by decide +kernel)) (
  e_more (s_iconst (n := 2) (v := 2) (by decide +kernel) (by decide)) (
  e_more (s_callV (c := 4) (idx := 40) nk_X4_instrumentOf (by decide +kernel) cl_X4_instrumentOf (by decide) rfl wd_779 wd_780 wd_781 (by decide) nr_X4_instrumentOf) (
  e_more (s_iconst (n := (-1)) (v := (-1)) (by decide +kernel) (by decide)) (
  e_more (s_ic_ne (off := 7) (by decide +kernel) (by decide)) (
  e_more (s_iconst (n := 1) (v := 1) (by decide +kernel) (by decide)) (
  e_more (s_goto (off := 4) (by decide +kernel) (by decide)) (
  e_more (s_iconst (n := 0) (v := 0) (by decide +kernel) (by decide)) (
  e_more (s_zret (by decide +kernel) rfl) (
  e_no_more)))))))))))))))))))))))))))))))))))))))))))))))))
def tb_L_act_5 : eTb := [(398, t_ldI 7 2 398), (400, t_push (.inl 9) 2 400), (402, t_icn (fun a b => a = b) 508 402), (405, t_ldO 0 1 405), (406, t_push (.inl 8) 2 406), (408, t_call 2 1 6 nw_X4_count 408), (411, t_stI 8 2 411), (413, t_ldO 0 1 413), (414, t_ldI 6 2 414), (416, t_push (.inl 1) 1 416), (417, t_call 3 1 6 nw_X4_instrumentOf 417), (420, t_stI 9 2 420), (422, t_ldO 0 1 422), (423, t_ldI 6 2 423), (425, t_push (.inl 2) 1 425), (426, t_call 3 1 6 nw_X4_instrumentOf 426), (429, t_if (fun a => a < 0) 436 429), (432, t_push (.inl 1) 1 432), (433, t_goto 437), (436, t_push (.inl 0) 1 436), (437, t_stI 10 2 437), (439, t_ldO 0 1 439), (440, t_ldI 6 2 440), (442, t_call 2 1 6 w_L_tryMend 442), (445, t_stI 11 2 445), (447, t_ldI 10 2 447), (449, t_if (fun a => a = 0) 468 449), (452, t_ldI 11 2 452), (454, t_push (.inl (-7002)) 3 454), (457, t_icn (fun a b => a = b) 464 457), (460, t_push (.inl 1) 1 460), (461, t_goto 507), (464, t_push (.inl 0) 1 464), (465, t_goto 507), (468, t_ldI 11 2 468), (470, t_push (.inl 15) 2 470), (472, t_ldI 9 2 472), (474, t_ii (fun a b => a * b) 474), (475, t_icn (fun a b => a = b) 506 475), (478, t_ldO 0 1 478), (479, t_push (.inl 8) 2 479), (481, t_call 2 1 6 nw_X4_count 481), (484, t_ldI 8 2 484), (486, t_ldI 11 2 486), (488, t_ii (fun a b => a - b) 488), (489, t_icn (fun a b => a = b) 506 489), (492, t_ldO 0 1 492), (493, t_ldI 6 2 493), (495, t_push (.inl 1) 1 495), (496, t_call 3 1 6 nw_X4_instrumentOf 496), (499, t_ifn (fun a => a = 0) 506 499), (502, t_push (.inl 1) 1 502), (503, t_goto 507), (506, t_push (.inl 0) 1 506), (507, t_zret)]
theorem st_L_act_5 : ∀ x ∈ tb_L_act_5, e_Sd e_rf RL i_L_act x.1 x.2 :=
  e_more (s_iload (by decide +kernel)) (
  e_more (s_bipush (n := 9) (v := 9) (by decide +kernel) (by decide)) (
  e_more (s_ic_ne (off := 106) (by decide +kernel) (by decide)) (
  e_more (s_aload_n (k := 0) (by decide +kernel) rfl) (
  e_more (s_bipush (n := 8) (v := 8) (by decide +kernel) (by decide)) (
  e_more (s_callV (c := 4) (idx := 58) nk_X4_count (by decide +kernel) cl_X4_count (by decide) rfl wd_746 wd_747 wd_748 (by decide) nr_X4_count) (
  e_more (s_istore (by decide +kernel) (by decide)) (
  e_more (s_aload_n (k := 0) (by decide +kernel) rfl) (
  e_more (s_iload (by decide +kernel)) (
  e_more (s_iconst (n := 1) (v := 1) (by decide +kernel) (by decide)) (
  e_more (s_callV (c := 4) (idx := 40) nk_X4_instrumentOf (by decide +kernel) cl_X4_instrumentOf (by decide) rfl wd_779 wd_780 wd_781 (by decide) nr_X4_instrumentOf) (
  e_more (s_istore (by decide +kernel) (by decide)) (
  e_more (s_aload_n (k := 0) (by decide +kernel) rfl) (
  e_more (s_iload (by decide +kernel)) (
  e_more (s_iconst (n := 2) (v := 2) (by decide +kernel) (by decide)) (
  e_more (s_callV (c := 4) (idx := 40) nk_X4_instrumentOf (by decide +kernel) cl_X4_instrumentOf (by decide) rfl wd_779 wd_780 wd_781 (by decide) nr_X4_instrumentOf) (
  e_more (s_if_lt (off := 7) (by decide +kernel) (by decide)) (
  e_more (s_iconst (n := 1) (v := 1) (by decide +kernel) (by decide)) (
  e_more (s_goto (off := 4) (by decide +kernel) (by decide)) (
  e_more (s_iconst (n := 0) (v := 0) (by decide +kernel) (by decide)) (
  e_more (s_istore (by decide +kernel) (by decide)) (
  e_more (s_aload_n (k := 0) (by decide +kernel) rfl) (
  e_more (s_iload (by decide +kernel)) (
  e_more (e_SdSH (fun G hG => s_callSH (idx := 109) hG k_L_tryMend (by decide +kernel) cl_L_tryMend wd_981 wd_982 (by decide))) (
  e_more (s_istore (by decide +kernel) (by decide)) (
  e_more (s_iload (by decide +kernel)) (
  e_more (s_if_eq (off := 19) (by decide +kernel) (by decide)) (
  e_more (s_iload (by decide +kernel)) (
  e_more (s_sipush (n := (-7002)) (v := (-7002)) (by decide +kernel) (by decide)) (
  e_more (s_ic_ne (off := 7) (by decide +kernel) (by decide)) (
  e_more (s_iconst (n := 1) (v := 1) (by decide +kernel) (by decide)) (
  e_more (s_goto (off := 46) (by decide +kernel) (by decide)) (
  e_more (s_iconst (n := 0) (v := 0) (by decide +kernel) (by decide)) (
  e_more (s_goto (off := 42) (by decide +kernel) (by decide)) (
  e_more (s_iload (by decide +kernel)) (
  e_more (s_bipush (n := 15) (v := 15) (by decide +kernel) (by decide)) (
  e_more (s_iload (by decide +kernel)) (
  e_more (s_imul (by decide +kernel)) (
  e_more (s_ic_ne (off := 31) (by decide +kernel) (by decide)) (
  e_more (s_aload_n (k := 0) (by decide +kernel) rfl) (
  e_more (s_bipush (n := 8) (v := 8) (by decide +kernel) (by decide)) (
  e_more (s_callV (c := 4) (idx := 58) nk_X4_count (by decide +kernel) cl_X4_count (by decide) rfl wd_746 wd_747 wd_748 (by decide) nr_X4_count) (
  e_more (s_iload (by decide +kernel)) (
  e_more (s_iload (by decide +kernel)) (
  e_more (s_isub (by decide +kernel)) (
  e_more (s_ic_ne (off := 17) (by decide +kernel) (by decide)) (
  e_more (s_aload_n (k := 0) (by decide +kernel) rfl) (
  e_more (s_iload (by decide +kernel)) (
  e_more (s_iconst (n := 1) (v := 1) (by decide +kernel) (by decide)) (
  e_more (s_callV (c := 4) (idx := 40) nk_X4_instrumentOf (by decide +kernel) cl_X4_instrumentOf (by decide) rfl wd_779 wd_780 wd_781 (by decide) nr_X4_instrumentOf) (
  e_more (s_if_ne (off := 7) (by decide +kernel) (by decide)) (
  e_more (s_iconst (n := 1) (v := 1) (by decide +kernel) (by decide)) (
  e_more (s_goto (off := 4) (by decide +kernel) (by decide)) (
  e_more (s_iconst (n := 0) (v := 0) (by decide +kernel) (by decide)) (
  e_more (s_zret (by decide +kernel) rfl) (
  e_no_more)))))))))))))))))))))))))))))))))))))))))))))))))))))))
def tb_L_act_6 : eTb := [(508, t_ldI 7 2 508), (510, t_push (.inl 10) 2 510), (512, t_icn (fun a b => a = b) 641 512), (515, t_ldO 0 1 515), (516, t_ldI 6 2 516), (518, t_push (.inl 1) 1 518), (519, t_call 3 1 6 nw_X4_instrumentOf 519), (522, t_stI 8 2 522), (524, t_ldO 0 1 524), (525, t_ldI 6 2 525), (527, t_push (.inl 4) 1 527), (528, t_call 3 1 6 nw_X4_instrumentOf 528), (531, t_stI 9 2 531), (533, t_push (.inl 1) 1 533), (534, t_ldI 2 1 534), (535, t_push (.inl 8) 2 535), (537, t_ii (fun a b => a >>> (b &&& 31)) 537), (538, t_ldI 2 1 538), (539, t_push (.inl 12) 2 539), (541, t_ii (fun a b => a >>> (b &&& 31)) 541), (542, t_push (.inl 3) 1 542), (543, t_call0 2 w_L_low 543), (546, t_ifn (fun a => a = 0) 554 546), (549, t_push (.inl 9) 2 549), (551, t_goto 555), (554, t_push (.inl 2) 1 554), (555, t_call0 2 w_L_low 555), (558, t_ii (fun a b => a + b) 558), (559, t_stI 10 2 559), (561, t_ldI 8 2 561), (563, t_ldI 10 2 563), (565, t_ii (fun a b => a + b) 565), (566, t_push (.inl 9) 2 566), (568, t_ic (fun a b => a ≤ b) 576 568), (571, t_push (.inl 9) 2 571), (573, t_goto 581), (576, t_ldI 8 2 576), (578, t_ldI 10 2 578), (580, t_ii (fun a b => a + b) 580), (581, t_stI 11 2 581), (583, t_ldO 0 1 583), (584, t_ldI 6 2 584), (586, t_ldI 10 2 586), (588, t_call 3 1 6 nw_X4_dent 588), (591, t_ldI 11 2 591), (593, t_icn (fun a b => a = b) 639 593), (596, t_ldO 0 1 596), (597, t_ldI 6 2 597), (599, t_push (.inl 1) 1 599), (600, t_call 3 1 6 nw_X4_instrumentOf 600), (603, t_ldI 11 2 603), (605, t_icn (fun a b => a = b) 639 605), (608, t_ldO 0 1 608), (609, t_ldI 6 2 609), (611, t_push (.inl 4) 1 611), (612, t_call 3 1 6 nw_X4_instrumentOf 612), (615, t_ldI 9 2 615), (617, t_if (fun a => 0 ≤ a) 624 617), (620, t_push (.inl (-1)) 1 620), (621, t_goto 632), (624, t_ldI 9 2 624), (626, t_ldI 11 2 626), (628, t_ii (fun a b => a + b) 628), (629, t_ldI 8 2 629), (631, t_ii (fun a b => a - b) 631), (632, t_icn (fun a b => a = b) 639 632), (635, t_push (.inl 1) 1 635), (636, t_goto 640), (639, t_push (.inl 0) 1 639), (640, t_zret)]
theorem st_L_act_6 : ∀ x ∈ tb_L_act_6, e_Sd e_rf RL i_L_act x.1 x.2 :=
  e_more (s_iload (by decide +kernel)) (
  e_more (s_bipush (n := 10) (v := 10) (by decide +kernel) (by decide)) (
  e_more (s_ic_ne (off := 129) (by decide +kernel) (by decide)) (
  e_more (s_aload_n (k := 0) (by decide +kernel) rfl) (
  e_more (s_iload (by decide +kernel)) (
  e_more (s_iconst (n := 1) (v := 1) (by decide +kernel) (by decide)) (
  e_more (s_callV (c := 4) (idx := 40) nk_X4_instrumentOf (by decide +kernel) cl_X4_instrumentOf (by decide) rfl wd_779 wd_780 wd_781 (by decide) nr_X4_instrumentOf) (
  e_more (s_istore (by decide +kernel) (by decide)) (
  e_more (s_aload_n (k := 0) (by decide +kernel) rfl) (
  e_more (s_iload (by decide +kernel)) (
  e_more (s_iconst (n := 4) (v := 4) (by decide +kernel) (by decide)) (
  e_more (s_callV (c := 4) (idx := 40) nk_X4_instrumentOf (by decide +kernel) cl_X4_instrumentOf (by decide) rfl wd_779 wd_780 wd_781 (by decide) nr_X4_instrumentOf) (
  e_more (s_istore (by decide +kernel) (by decide)) (
  e_more (s_iconst (n := 1) (v := 1) (by decide +kernel) (by decide)) (
  e_more (s_iload_n (k := 2) (by decide +kernel) rfl) (
  e_more (s_bipush (n := 8) (v := 8) (by decide +kernel) (by decide)) (
  e_more (s_ishr (by decide +kernel)) (
  e_more (s_iload_n (k := 2) (by decide +kernel) rfl) (
  e_more (s_bipush (n := 12) (v := 12) (by decide +kernel) (by decide)) (
  e_more (s_ishr (by decide +kernel)) (
  e_more (s_iconst (n := 3) (v := 3) (by decide +kernel) (by decide)) (
  e_more (e_call0 (s_callS (idx := 93) k_L_low (by decide +kernel) cl_L_low wd_871 wd_872 (by decide))) (
  e_more (s_if_ne (off := 8) (by decide +kernel) (by decide)) (
  e_more (s_bipush (n := 9) (v := 9) (by decide +kernel) (by decide)) (
  e_more (s_goto (off := 4) (by decide +kernel) (by decide)) (
  e_more (s_iconst (n := 2) (v := 2) (by decide +kernel) (by decide)) (
  e_more (e_call0 (s_callS (idx := 93) k_L_low (by decide +kernel) cl_L_low wd_871 wd_872 (by decide))) (
  e_more (s_iadd (by decide +kernel)) (
  e_more (s_istore (by decide +kernel) (by decide)) (
  e_more (s_iload (by decide +kernel)) (
  e_more (s_iload (by decide +kernel)) (
  e_more (s_iadd (by decide +kernel)) (
  e_more (s_bipush (n := 9) (v := 9) (by decide +kernel) (by decide)) (
  e_more (s_ic_le (off := 8) (by decide +kernel) (by decide)) (
  e_more (s_bipush (n := 9) (v := 9) (by decide +kernel) (by decide)) (
  e_more (s_goto (off := 8) (by decide +kernel) (by decide)) (
  e_more (s_iload (by decide +kernel)) (
  e_more (s_iload (by decide +kernel)) (
  e_more (s_iadd (by decide +kernel)) (
  e_more (s_istore (by decide +kernel) (by decide)) (
  e_more (s_aload_n (k := 0) (by decide +kernel) rfl) (
  e_more (s_iload (by decide +kernel)) (
  e_more (s_iload (by decide +kernel)) (
  e_more (s_callV (c := 4) (idx := 112) nk_X4_dent (by decide +kernel) cl_X4_dent (by decide) rfl wd_998 wd_999 wd_1000 (by decide) nr_X4_dent) (
  e_more (s_iload (by decide +kernel)) (
  e_more (s_ic_ne (off := 46) (by decide +kernel) (by decide)) (
  e_more (s_aload_n (k := 0) (by decide +kernel) rfl) (
  e_more (s_iload (by decide +kernel)) (
  e_more (s_iconst (n := 1) (v := 1) (by decide +kernel) (by decide)) (
  e_more (s_callV (c := 4) (idx := 40) nk_X4_instrumentOf (by decide +kernel) cl_X4_instrumentOf (by decide) rfl wd_779 wd_780 wd_781 (by decide) nr_X4_instrumentOf) (
  e_more (s_iload (by decide +kernel)) (
  e_more (s_ic_ne (off := 34) (by decide +kernel) (by decide)) (
  e_more (s_aload_n (k := 0) (by decide +kernel) rfl) (
  e_more (s_iload (by decide +kernel)) (
  e_more (s_iconst (n := 4) (v := 4) (by decide +kernel) (by decide)) (
  e_more (s_callV (c := 4) (idx := 40) nk_X4_instrumentOf (by decide +kernel) cl_X4_instrumentOf (by decide) rfl wd_779 wd_780 wd_781 (by decide) nr_X4_instrumentOf) (
  e_more (s_iload (by decide +kernel)) (
  e_more (s_if_ge (off := 7) (by decide +kernel) (by decide)) (
  e_more (s_iconst (n := (-1)) (v := (-1)) (by decide +kernel) (by decide)) (
  e_more (s_goto (off := 11) (by decide +kernel) (by decide)) (
  e_more (s_iload (by decide +kernel)) (
  e_more (s_iload (by decide +kernel)) (
  e_more (s_iadd (by decide +kernel)) (
  e_more (s_iload (by decide +kernel)) (
  e_more (s_isub (by decide +kernel)) (
  e_more (s_ic_ne (off := 7) (by decide +kernel) (by decide)) (
  e_more (s_iconst (n := 1) (v := 1) (by decide +kernel) (by decide)) (
  e_more (s_goto (off := 4) (by decide +kernel) (by decide)) (
  e_more (s_iconst (n := 0) (v := 0) (by decide +kernel) (by decide)) (
  e_more (s_zret (by decide +kernel) rfl) (
  e_no_more))))))))))))))))))))))))))))))))))))))))))))))))))))))))))))))))))))))
def tb_L_act_7 : eTb := [(641, t_ldI 7 2 641), (643, t_push (.inl 11) 2 643), (645, t_icn (fun a b => a = b) 771 645), (648, t_ldO 0 1 648), (649, t_ldI 5 2 649), (651, t_push (.inl 3) 1 651), (652, t_call 3 1 6 nw_X4_pupilOf 652), (655, t_stI 8 2 655), (657, t_ldO 0 1 657), (658, t_push (.inl 14) 2 658), (660, t_call 2 1 6 nw_X4_count 660), (663, t_stI 9 2 663), (665, t_ldO 0 1 665), (666, t_push (.inl 11) 2 666), (668, t_call 2 1 6 nw_X4_count 668), (671, t_stI 10 2 671), (673, t_ldO 0 1 673), (674, t_push (.inl 8) 2 674), (676, t_call 2 1 6 nw_X4_count 676), (679, t_stI 11 2 679), (681, t_push (.inl 1) 1 681), (682, t_ldI 2 1 682), (683, t_push (.inl 6) 2 683), (685, t_ii (fun a b => a >>> (b &&& 31)) 685), (686, t_push (.inl 99) 2 686), (688, t_call0 2 w_L_low 688), (691, t_ii (fun a b => a + b) 691), (692, t_stI 12 2 692), (694, t_ldO 0 1 694), (695, t_ldI 5 2 695), (697, t_ldI 12 2 697), (699, t_call 3 1 6 nw_X4_pay 699), (702, t_stI 13 2 702), (704, t_ldI 13 2 704), (706, t_ldI 12 2 706), (708, t_ldI 8 2 708), (710, t_ic (fun a b => b ≤ a) 718 710), (713, t_ldI 12 2 713), (715, t_goto 720), (718, t_ldI 8 2 718), (720, t_icn (fun a b => a = b) 769 720), (723, t_ldO 0 1 723), (724, t_push (.inl 14) 2 724), (726, t_call 2 1 6 nw_X4_count 726), (729, t_ldI 9 2 729), (731, t_ldI 13 2 731), (733, t_ii (fun a b => a - b) 733), (734, t_icn (fun a b => a = b) 769 734), (737, t_ldO 0 1 737), (738, t_push (.inl 11) 2 738), (740, t_call 2 1 6 nw_X4_count 740), (743, t_ldI 10 2 743), (745, t_ldI 13 2 745), (747, t_ii (fun a b => a + b) 747), (748, t_icn (fun a b => a = b) 769 748), (751, t_ldO 0 1 751), (752, t_push (.inl 8) 2 752), (754, t_call 2 1 6 nw_X4_count 754), (757, t_ldI 11 2 757), (759, t_ldI 13 2 759), (761, t_ii (fun a b => a + b) 761), (762, t_icn (fun a b => a = b) 769 762), (765, t_push (.inl 1) 1 765), (766, t_goto 770), (769, t_push (.inl 0) 1 769), (770, t_zret)]
theorem st_L_act_7 : ∀ x ∈ tb_L_act_7, e_Sd e_rf RL i_L_act x.1 x.2 :=
  e_more (s_iload (by decide +kernel)) (
  e_more (s_bipush (n := 11) (v := 11) (by decide +kernel) (by decide)) (
  e_more (s_ic_ne (off := 126) (by decide +kernel) (by decide)) (
  e_more (s_aload_n (k := 0) (by decide +kernel) rfl) (
  e_more (s_iload (by decide +kernel)) (
  e_more (s_iconst (n := 3) (v := 3) (by decide +kernel) (by decide)) (
  e_more (s_callV (c := 4) (idx := 37) nk_X4_pupilOf (by decide +kernel) cl_X4_pupilOf (by decide) rfl wd_769 wd_770 wd_771 (by decide) nr_X4_pupilOf) (
  e_more (s_istore (by decide +kernel) (by decide)) (
  e_more (s_aload_n (k := 0) (by decide +kernel) rfl) (
  e_more (s_bipush (n := 14) (v := 14) (by decide +kernel) (by decide)) (
  e_more (s_callV (c := 4) (idx := 58) nk_X4_count (by decide +kernel) cl_X4_count (by decide) rfl wd_746 wd_747 wd_748 (by decide) nr_X4_count) (
  e_more (s_istore (by decide +kernel) (by decide)) (
  e_more (s_aload_n (k := 0) (by decide +kernel) rfl) (
  e_more (s_bipush (n := 11) (v := 11) (by decide +kernel) (by decide)) (
  e_more (s_callV (c := 4) (idx := 58) nk_X4_count (by decide +kernel) cl_X4_count (by decide) rfl wd_746 wd_747 wd_748 (by decide) nr_X4_count) (
  e_more (s_istore (by decide +kernel) (by decide)) (
  e_more (s_aload_n (k := 0) (by decide +kernel) rfl) (
  e_more (s_bipush (n := 8) (v := 8) (by decide +kernel) (by decide)) (
  e_more (s_callV (c := 4) (idx := 58) nk_X4_count (by decide +kernel) cl_X4_count (by decide) rfl wd_746 wd_747 wd_748 (by decide) nr_X4_count) (
  e_more (s_istore (by decide +kernel) (by decide)) (
  e_more (s_iconst (n := 1) (v := 1) (by decide +kernel) (by decide)) (
  e_more (s_iload_n (k := 2) (by decide +kernel) rfl) (
  e_more (s_bipush (n := 6) (v := 6) (by decide +kernel) (by decide)) (
  e_more (s_ishr (by decide +kernel)) (
  e_more (s_bipush (n := 99) (v := 99) (by decide +kernel) (by decide)) (
  e_more (e_call0 (s_callS (idx := 93) k_L_low (by decide +kernel) cl_L_low wd_871 wd_872 (by decide))) (
  e_more (s_iadd (by decide +kernel)) (
  e_more (s_istore (by decide +kernel) (by decide)) (
  e_more (s_aload_n (k := 0) (by decide +kernel) rfl) (
  e_more (s_iload (by decide +kernel)) (
  e_more (s_iload (by decide +kernel)) (
  e_more (s_callV (c := 4) (idx := 115) nk_X4_pay (by decide +kernel) cl_X4_pay (by decide) rfl wd_1008 wd_1009 wd_1010 (by decide) nr_X4_pay) (
  e_more (s_istore (by decide +kernel) (by decide)) (
  e_more (s_iload (by decide +kernel)) (
  e_more (s_iload (by decide +kernel)) (
  e_more (s_iload (by decide +kernel)) (
  e_more (s_ic_ge (off := 8) (by decide +kernel) (by decide)) (
  e_more (s_iload (by decide +kernel)) (
  e_more (s_goto (off := 5) (by decide +kernel) (by decide)) (
  e_more (s_iload (by decide +kernel)) (
  e_more (s_ic_ne (off := 49) (by decide +kernel) (by decide)) (
  e_more (s_aload_n (k := 0) (by decide +kernel) rfl) (
  e_more (s_bipush (n := 14) (v := 14) (by decide +kernel) (by decide)) (
  e_more (s_callV (c := 4) (idx := 58) nk_X4_count (by decide +kernel) cl_X4_count (by decide) rfl wd_746 wd_747 wd_748 (by decide) nr_X4_count) (
  e_more (s_iload (by decide +kernel)) (
  e_more (s_iload (by decide +kernel)) (
  e_more (s_isub (by decide +kernel)) (
  e_more (s_ic_ne (off := 35) (by decide +kernel) (by decide)) (
  e_more (s_aload_n (k := 0) (by decide +kernel) rfl) (
  e_more (s_bipush (n := 11) (v := 11) (by decide +kernel) (by decide)) (
  e_more (s_callV (c := 4) (idx := 58) nk_X4_count (by decide +kernel) cl_X4_count (by decide) rfl wd_746 wd_747 wd_748 (by decide) nr_X4_count) (
  e_more (s_iload (by decide +kernel)) (
  e_more (s_iload (by decide +kernel)) (
  e_more (s_iadd (by decide +kernel)) (
  e_more (s_ic_ne (off := 21) (by decide +kernel) (by decide)) (
  e_more (s_aload_n (k := 0) (by decide +kernel) rfl) (
  e_more (s_bipush (n := 8) (v := 8) (by decide +kernel) (by decide)) (
  e_more (s_callV (c := 4) (idx := 58) nk_X4_count (by decide +kernel) cl_X4_count (by decide) rfl wd_746 wd_747 wd_748 (by decide) nr_X4_count) (
  e_more (s_iload (by decide +kernel)) (
  e_more (s_iload (by decide +kernel)) (
  e_more (s_iadd (by decide +kernel)) (
  e_more (s_ic_ne (off := 7) (by decide +kernel) (by decide)) (
  e_more (s_iconst (n := 1) (v := 1) (by decide +kernel) (by decide)) (
  e_more (s_goto (off := 4) (by decide +kernel) (by decide)) (
  e_more (s_iconst (n := 0) (v := 0) (by decide +kernel) (by decide)) (
  e_more (s_zret (by decide +kernel) rfl) (
  e_no_more))))))))))))))))))))))))))))))))))))))))))))))))))))))))))))))))))
def tb_L_act_8 : eTb := [(771, t_ldI 7 2 771), (773, t_push (.inl 12) 2 773), (775, t_icn (fun a b => a = b) 869 775), (778, t_ldI 2 1 778), (779, t_push (.inl 3) 1 779), (780, t_ii (fun a b => a >>> (b &&& 31)) 780), (781, t_ldI 2 1 781), (782, t_push (.inl 3) 1 782), (783, t_call0 2 w_L_low 783), (786, t_ifn (fun a => a = 0) 794 786), (789, t_push (.inl 51) 2 789), (791, t_goto 811), (794, t_ldI 2 1 794), (795, t_push (.inl 3) 1 795), (796, t_call0 2 w_L_low 796), (799, t_push (.inl 1) 1 799), (800, t_icn (fun a b => a = b) 809 800), (803, t_push (.inl 201) 3 803), (806, t_goto 811), (809, t_push (.inl 100) 2 809), (811, t_call0 2 w_L_low 811), (814, t_stI 8 2 814), (816, t_ldO 0 1 816), (817, t_push (.inl 15) 2 817), (819, t_ldI 2 1 819), (820, t_push (.inl 3) 1 820), (821, t_call0 2 w_L_low 821), (824, t_ii (fun a b => a + b) 824), (825, t_call 2 1 6 nw_X4_count 825), (828, t_stI 9 2 828), (830, t_ldO 0 1 830), (831, t_ldI 2 1 831), (832, t_push (.inl 3) 1 832), (833, t_call0 2 w_L_low 833), (836, t_ldI 8 2 836), (838, t_call 3 1 6 nw_X4_set 838), (841, t_ldI 9 2 841), (843, t_icn (fun a b => a = b) 867 843), (846, t_ldO 0 1 846), (847, t_push (.inl 15) 2 847), (849, t_ldI 2 1 849), (850, t_push (.inl 3) 1 850), (851, t_call0 2 w_L_low 851), (854, t_ii (fun a b => a + b) 854), (855, t_call 2 1 6 nw_X4_count 855), (858, t_ldI 8 2 858), (860, t_icn (fun a b => a = b) 867 860), (863, t_push (.inl 1) 1 863), (864, t_goto 868), (867, t_push (.inl 0) 1 867), (868, t_zret)]
theorem st_L_act_8 : ∀ x ∈ tb_L_act_8, e_Sd e_rf RL i_L_act x.1 x.2 :=
  e_more (s_iload (by decide +kernel)) (
  e_more (s_bipush (n := 12) (v := 12) (by decide +kernel) (by decide)) (
  e_more (s_ic_ne (off := 94) (by decide +kernel) (by decide)) (
  e_more (s_iload_n (k := 2) (by decide +kernel) rfl) (
  e_more (s_iconst (n := 3) (v := 3) (by decide +kernel) (by decide)) (
  e_more (s_ishr (by decide +kernel)) (
  e_more (s_iload_n (k := 2) (by decide +kernel) rfl) (
  e_more (s_iconst (n := 3) (v := 3) (by decide +kernel) (by decide)) (
  e_more (e_call0 (s_callS (idx := 93) k_L_low (by decide +kernel) cl_L_low wd_871 wd_872 (by decide))) (
  e_more (s_if_ne (off := 8) (by decide +kernel) (by decide)) (
  e_more (s_bipush (n := 51) (v := 51) (by decide +kernel) (by decide)) (
  e_more (s_goto (off := 20) (by decide +kernel) (by decide)) (
  e_more (s_iload_n (k := 2) (by decide +kernel) rfl) (
  e_more (s_iconst (n := 3) (v := 3) (by decide +kernel) (by decide)) (
  e_more (e_call0 (s_callS (idx := 93) k_L_low (by decide +kernel) cl_L_low wd_871 wd_872 (by decide))) (
  e_more (s_iconst (n := 1) (v := 1) (by decide +kernel) (by decide)) (
  e_more (s_ic_ne (off := 9) (by decide +kernel) (by decide)) (
  e_more (s_sipush (n := 201) (v := 201) (by decide +kernel) (by decide)) (
  e_more (s_goto (off := 5) (by decide +kernel) (by decide)) (
  e_more (s_bipush (n := 100) (v := 100) (by decide +kernel) (by decide)) (
  e_more (e_call0 (s_callS (idx := 93) k_L_low (by decide +kernel) cl_L_low wd_871 wd_872 (by decide))) (
  e_more (s_istore (by decide +kernel) (by decide)) (
  e_more (s_aload_n (k := 0) (by decide +kernel) rfl) (
  e_more (s_bipush (n := 15) (v := 15) (by decide +kernel) (by decide)) (
  e_more (s_iload_n (k := 2) (by decide +kernel) rfl) (
  e_more (s_iconst (n := 3) (v := 3) (by decide +kernel) (by decide)) (
  e_more (e_call0 (s_callS (idx := 93) k_L_low (by decide +kernel) cl_L_low wd_871 wd_872 (by decide))) (
  e_more (s_iadd (by decide +kernel)) (
  e_more (s_callV (c := 4) (idx := 58) nk_X4_count (by decide +kernel) cl_X4_count (by decide) rfl wd_746 wd_747 wd_748 (by decide) nr_X4_count) (
  e_more (s_istore (by decide +kernel) (by decide)) (
  e_more (s_aload_n (k := 0) (by decide +kernel) rfl) (
  e_more (s_iload_n (k := 2) (by decide +kernel) rfl) (
  e_more (s_iconst (n := 3) (v := 3) (by decide +kernel) (by decide)) (
  e_more (e_call0 (s_callS (idx := 93) k_L_low (by decide +kernel) cl_L_low wd_871 wd_872 (by decide))) (
  e_more (s_iload (by decide +kernel)) (
  e_more (s_callV (c := 4) (idx := 118) nk_X4_set (by decide +kernel) cl_X4_set (by decide) rfl wd_1018 wd_1019 wd_1020 (by decide) nr_X4_set) (
  e_more (s_iload (by decide +kernel)) (
  e_more (s_ic_ne (off := 24) (by decide +kernel) (by decide)) (
  e_more (s_aload_n (k := 0) (by decide +kernel) rfl) (
  e_more (s_bipush (n := 15) (v := 15) (by decide +kernel) (by decide)) (
  e_more (s_iload_n (k := 2) (by decide +kernel) rfl) (
  e_more (s_iconst (n := 3) (v := 3) (by decide +kernel) (by decide)) (
  e_more (e_call0 (s_callS (idx := 93) k_L_low (by decide +kernel) cl_L_low wd_871 wd_872 (by decide))) (
  e_more (s_iadd (by decide +kernel)) (
  e_more (s_callV (c := 4) (idx := 58) nk_X4_count (by decide +kernel) cl_X4_count (by decide) rfl wd_746 wd_747 wd_748 (by decide) nr_X4_count) (
  e_more (s_iload (by decide +kernel)) (
  e_more (s_ic_ne (off := 7) (by decide +kernel) (by decide)) (
  e_more (s_iconst (n := 1) (v := 1) (by decide +kernel) (by decide)) (
  e_more (s_goto (off := 4) (by decide +kernel) (by decide)) (
  e_more (s_iconst (n := 0) (v := 0) (by decide +kernel) (by decide)) (
  e_more (s_zret (by decide +kernel) rfl) (
  e_no_more)))))))))))))))))))))))))))))))))))))))))))))))))))
def tb_L_act_9 : eTb := [(869, t_ldI 7 2 869), (871, t_push (.inl 15) 2 871), (873, t_ic (fun a b => b ≤ a) 1015 873), (876, t_ldO 0 1 876), (877, t_push (.inl 3) 1 877), (878, t_call 2 1 6 nw_X4_count 878), (881, t_stI 8 2 881), (883, t_ldI 2 1 883), (884, t_push (.inl 6) 2 884), (886, t_ii (fun a b => a >>> (b &&& 31)) 886), (887, t_push (.inl 2) 1 887), (888, t_call0 2 w_L_low 888), (891, t_if (fun a => a = 0) 904 891), (894, t_ldI 8 2 894), (896, t_push (.inl 7) 2 896), (898, t_idv (fun a b => a - a / b * b) 898), (899, t_push (.inl 6) 2 899), (901, t_icn (fun a b => a = b) 914 901), (904, t_push (.inl 1) 1 904), (905, t_ldI 2 1 905), (906, t_push (.inl 3) 1 906), (907, t_call0 2 w_L_low 907), (910, t_ii (fun a b => a + b) 910), (911, t_goto 922), (914, t_push (.inl 6) 2 914), (916, t_ldI 8 2 916), (918, t_push (.inl 7) 2 918), (920, t_idv (fun a b => a - a / b * b) 920), (921, t_ii (fun a b => a - b) 921), (922, t_stI 9 2 922), (924, t_ldO 0 1 924), (925, t_ldI 5 2 925), (927, t_push (.inl 1) 1 927), (928, t_call 3 1 6 nw_X4_pupilOf 928), (931, t_push (.inl 4) 1 931), (932, t_ldI 9 2 932), (934, t_ii (fun a b => a * b) 934), (935, t_ii (fun a b => a + b) 935), (936, t_stI 10 2 936), (938, t_ldO 0 1 938), (939, t_ldI 9 2 939), (941, t_call 2 1 6 nw_X4_pass 941), (944, t_ldI 8 2 944), (946, t_ldI 9 2 946), (948, t_ii (fun a b => a + b) 948), (949, t_icn (fun a b => a = b) 1013 949), (952, t_ldO 0 1 952), (953, t_push (.inl 3) 1 953), (954, t_call 2 1 6 nw_X4_count 954), (957, t_ldI 8 2 957), (959, t_ldI 9 2 959), (961, t_ii (fun a b => a + b) 961), (962, t_icn (fun a b => a = b) 1013 962), (965, t_ldO 0 1 965), (966, t_ldI 5 2 966), (968, t_push (.inl 5) 1 968), (969, t_call 3 1 6 nw_X4_pupilOf 969), (972, t_ifn (fun a => a = 0) 1013 972), (975, t_ldO 0 1 975), (976, t_ldI 5 2 976), (978, t_push (.inl 1) 1 978), (979, t_call 3 1 6 nw_X4_pupilOf 979), (982, t_ldI 10 2 982), (984, t_ldO 0 1 984), (985, t_ldI 5 2 985), (987, t_push (.inl 0) 1 987), (988, t_call 3 1 6 nw_X4_pupilOf 988), (991, t_ic (fun a b => a ≤ b) 1004 991), (994, t_ldO 0 1 994), (995, t_ldI 5 2 995), (997, t_push (.inl 0) 1 997), (998, t_call 3 1 6 nw_X4_pupilOf 998), (1001, t_goto 1006), (1004, t_ldI 10 2 1004), (1006, t_icn (fun a b => a = b) 1013 1006), (1009, t_push (.inl 1) 1 1009), (1010, t_goto 1014), (1013, t_push (.inl 0) 1 1013), (1014, t_zret)]
theorem st_L_act_9 : ∀ x ∈ tb_L_act_9, e_Sd e_rf RL i_L_act x.1 x.2 :=
  e_more (s_iload (by decide +kernel)) (
  e_more (s_bipush (n := 15) (v := 15) (by decide +kernel) (by decide)) (
  e_more (s_ic_ge (off := 142) (by decide +kernel) (by decide)) (
  e_more (s_aload_n (k := 0) (by decide +kernel) rfl) (
  e_more (s_iconst (n := 3) (v := 3) (by decide +kernel) (by decide)) (
  e_more (s_callV (c := 4) (idx := 58) nk_X4_count (by decide +kernel) cl_X4_count (by decide) rfl wd_746 wd_747 wd_748 (by decide) nr_X4_count) (
  e_more (s_istore (by decide +kernel) (by decide)) (
  e_more (s_iload_n (k := 2) (by decide +kernel) rfl) (
  e_more (s_bipush (n := 6) (v := 6) (by decide +kernel) (by decide)) (
  e_more (s_ishr (by decide +kernel)) (
  e_more (s_iconst (n := 2) (v := 2) (by decide +kernel) (by decide)) (
  e_more (e_call0 (s_callS (idx := 93) k_L_low (by decide +kernel) cl_L_low wd_871 wd_872 (by decide))) (
  e_more (s_if_eq (off := 13) (by decide +kernel) (by decide)) (
  e_more (s_iload (by decide +kernel)) (
  e_more (s_bipush (n := 7) (v := 7) (by decide +kernel) (by decide)) (
  e_more (s_irem (by decide +kernel)) (
  e_more (s_bipush (n := 6) (v := 6) (by decide +kernel) (by decide)) (
  e_more (s_ic_ne (off := 13) (by decide +kernel) (by decide)) (
  e_more (s_iconst (n := 1) (v := 1) (by decide +kernel) (by decide)) (
  e_more (s_iload_n (k := 2) (by decide +kernel) rfl) (
  e_more (s_iconst (n := 3) (v := 3) (by decide +kernel) (by decide)) (
  e_more (e_call0 (s_callS (idx := 93) k_L_low (by decide +kernel) cl_L_low wd_871 wd_872 (by decide))) (
  e_more (s_iadd (by decide +kernel)) (
  e_more (s_goto (off := 11) (by decide +kernel) (by decide)) (
  e_more (s_bipush (n := 6) (v := 6) (by decide +kernel) (by decide)) (
  e_more (s_iload (by decide +kernel)) (
  e_more (s_bipush (n := 7) (v := 7) (by decide +kernel) (by decide)) (
  e_more (s_irem (by decide +kernel)) (
  e_more (s_isub (by decide +kernel)) (
  e_more (s_istore (by decide +kernel) (by decide)) (
  e_more (s_aload_n (k := 0) (by decide +kernel) rfl) (
  e_more (s_iload (by decide +kernel)) (
  e_more (s_iconst (n := 1) (v := 1) (by decide +kernel) (by decide)) (
  e_more (s_callV (c := 4) (idx := 37) nk_X4_pupilOf (by decide +kernel) cl_X4_pupilOf (by decide) rfl wd_769 wd_770 wd_771 (by decide) nr_X4_pupilOf) (
  e_more (s_iconst (n := 4) (v := 4) (by decide +kernel) (by decide)) (
  e_more (s_iload (by decide +kernel)) (
  e_more (s_imul (by decide +kernel)) (
  e_more (s_iadd (by decide +kernel)) (
  e_more (s_istore (by decide +kernel) (by decide)) (
  e_more (s_aload_n (k := 0) (by decide +kernel) rfl) (
  e_more (s_iload (by decide +kernel)) (
  e_more (s_callV (c := 4) (idx := 121) nk_X4_pass (by decide +kernel) cl_X4_pass (by decide) rfl wd_1033 wd_1034 wd_1035 (by decide) nr_X4_pass) (
  e_more (s_iload (by decide +kernel)) (
  e_more (s_iload (by decide +kernel)) (
  e_more (s_iadd (by decide +kernel)) (
  e_more (s_ic_ne (off := 64) (by decide +kernel) (by decide)) (
  e_more (s_aload_n (k := 0) (by decide +kernel) rfl) (
  e_more (s_iconst (n := 3) (v := 3) (by decide +kernel) (by decide)) (
  e_more (s_callV (c := 4) (idx := 58) nk_X4_count (by decide +kernel) cl_X4_count (by decide) rfl wd_746 wd_747 wd_748 (by decide) nr_X4_count) (
  e_more (s_iload (by decide +kernel)) (
  e_more (s_iload (by decide +kernel)) (
  e_more (s_iadd (by decide +kernel)) (
  e_more (s_ic_ne (off := 51) (by decide +kernel) (by decide)) (
  e_more (s_aload_n (k := 0) (by decide +kernel) rfl) (
  e_more (s_iload (by decide +kernel)) (
  e_more (s_iconst (n := 5) (v := 5) (by decide +kernel) (by decide)) (
  e_more (s_callV (c := 4) (idx := 37) nk_X4_pupilOf (by decide +kernel) cl_X4_pupilOf (by decide) rfl wd_769 wd_770 wd_771 (by decide) nr_X4_pupilOf) (
  e_more (s_if_ne (off := 41) (by decide +kernel) (by decide)) (
  e_more (s_aload_n (k := 0) (by decide +kernel) rfl) (
  e_more (s_iload (by decide +kernel)) (
  e_more (s_iconst (n := 1) (v := 1) (by decide +kernel) (by decide)) (
  e_more (s_callV (c := 4) (idx := 37) nk_X4_pupilOf (by decide +kernel) cl_X4_pupilOf (by decide) rfl wd_769 wd_770 wd_771 (by decide) nr_X4_pupilOf) (
  e_more (s_iload (by decide +kernel)) (
  e_more (s_aload_n (k := 0) (by decide +kernel) rfl) (
  e_more (s_iload (by decide +kernel)) (
  e_more (s_iconst (n := 0) (v := 0) (by decide +kernel) (by decide)) (
  e_more (s_callV (c := 4) (idx := 37) nk_X4_pupilOf (by decide +kernel) cl_X4_pupilOf (by decide) rfl wd_769 wd_770 wd_771 (by decide) nr_X4_pupilOf) (
  e_more (s_ic_le (off := 13) (by decide +kernel) (by decide)) (
  e_more (s_aload_n (k := 0) (by decide +kernel) rfl) (
  e_more (s_iload (by decide +kernel)) (
  e_more (s_iconst (n := 0) (v := 0) (by decide +kernel) (by decide)) (
  e_more (s_callV (c := 4) (idx := 37) nk_X4_pupilOf (by decide +kernel) cl_X4_pupilOf (by decide) rfl wd_769 wd_770 wd_771 (by decide) nr_X4_pupilOf) (
  e_more (s_goto (off := 5) (by decide +kernel) (by decide)) (
  e_more (s_iload (by decide +kernel)) (
  e_more (s_ic_ne (off := 7) (by decide +kernel) (by decide)) (
  e_more (s_iconst (n := 1) (v := 1) (by decide +kernel) (by decide)) (
  e_more (s_goto (off := 4) (by decide +kernel) (by decide)) (
  e_more (s_iconst (n := 0) (v := 0) (by decide +kernel) (by decide)) (
  e_more (s_zret (by decide +kernel) rfl) (
  e_no_more)))))))))))))))))))))))))))))))))))))))))))))))))))))))))))))))))))))))))))))))
def tb_L_act_10 : eTb := [(1015, t_ldI 7 2 1015), (1017, t_push (.inl 18) 2 1017), (1019, t_ic (fun a b => b ≤ a) 1037 1019), (1022, t_ldO 0 1 1022), (1023, t_ldI 5 2 1023), (1025, t_ldI 2 1 1025), (1026, t_push (.inl 6) 2 1026), (1028, t_ii (fun a b => a >>> (b &&& 31)) 1028), (1029, t_push (.inl 3) 1 1029), (1030, t_call0 2 w_L_low 1030), (1033, t_call 3 20 120 w_L_teaches 1033), (1036, t_zret)]
theorem st_L_act_10 : ∀ x ∈ tb_L_act_10, e_Sd e_rf RL i_L_act x.1 x.2 :=
  e_more (s_iload (by decide +kernel)) (
  e_more (s_bipush (n := 18) (v := 18) (by decide +kernel) (by decide)) (
  e_more (s_ic_ge (off := 18) (by decide +kernel) (by decide)) (
  e_more (s_aload_n (k := 0) (by decide +kernel) rfl) (
  e_more (s_iload (by decide +kernel)) (
  e_more (s_iload_n (k := 2) (by decide +kernel) rfl) (
  e_more (s_bipush (n := 6) (v := 6) (by decide +kernel) (by decide)) (
  e_more (s_ishr (by decide +kernel)) (
  e_more (s_iconst (n := 3) (v := 3) (by decide +kernel) (by decide)) (
  e_more (e_call0 (s_callS (idx := 93) k_L_low (by decide +kernel) cl_L_low wd_871 wd_872 (by decide))) (
  e_more (s_callS (idx := 124) k_L_teaches (by decide +kernel) cl_L_teaches wd_1042 wd_1043 (by decide)) (
  e_more (s_zret (by decide +kernel) rfl) (
  e_no_more))))))))))))
def tb_L_act_11 : eTb := [(1037, t_ldI 7 2 1037), (1039, t_push (.inl 18) 2 1039), (1041, t_icn (fun a b => a = b) 1081 1041), (1044, t_ldO 0 1 1044), (1045, t_ldI 2 1 1045), (1046, t_push (.inl 4) 1 1046), (1047, t_call0 2 w_L_low 1047), (1050, t_ldI 2 1 1050), (1051, t_push (.inl 3) 1 1051), (1052, t_ii (fun a b => a >>> (b &&& 31)) 1052), (1053, t_push (.inl 3) 1 1053), (1054, t_call0 2 w_L_low 1054), (1057, t_call 3 40 240 w_L_helpsSo 1057), (1060, t_if (fun a => a = 0) 1079 1060), (1063, t_ldO 0 1 1063), (1064, t_ldI 2 1 1064), (1065, t_push (.inl 4) 1 1065), (1066, t_call0 2 w_L_low 1066), (1069, t_call 2 296 19056 w_L_isText 1069), (1072, t_if (fun a => a = 0) 1079 1072), (1075, t_push (.inl 1) 1 1075), (1076, t_goto 1080), (1079, t_push (.inl 0) 1 1079), (1080, t_zret)]
theorem st_L_act_11 : ∀ x ∈ tb_L_act_11, e_Sd e_rf RL i_L_act x.1 x.2 :=
  e_more (s_iload (by decide +kernel)) (
  e_more (s_bipush (n := 18) (v := 18) (by decide +kernel) (by decide)) (
  e_more (s_ic_ne (off := 40) (by decide +kernel) (by decide)) (
  e_more (s_aload_n (k := 0) (by decide +kernel) rfl) (
  e_more (s_iload_n (k := 2) (by decide +kernel) rfl) (
  e_more (s_iconst (n := 4) (v := 4) (by decide +kernel) (by decide)) (
  e_more (e_call0 (s_callS (idx := 93) k_L_low (by decide +kernel) cl_L_low wd_871 wd_872 (by decide))) (
  e_more (s_iload_n (k := 2) (by decide +kernel) rfl) (
  e_more (s_iconst (n := 3) (v := 3) (by decide +kernel) (by decide)) (
  e_more (s_ishr (by decide +kernel)) (
  e_more (s_iconst (n := 3) (v := 3) (by decide +kernel) (by decide)) (
  e_more (e_call0 (s_callS (idx := 93) k_L_low (by decide +kernel) cl_L_low wd_871 wd_872 (by decide))) (
  e_more (s_callS (idx := 128) k_L_helpsSo (by decide +kernel) cl_L_helpsSo wd_1063 wd_1064 (by decide)) (
  e_more (s_if_eq (off := 19) (by decide +kernel) (by decide)) (
  e_more (s_aload_n (k := 0) (by decide +kernel) rfl) (
  e_more (s_iload_n (k := 2) (by decide +kernel) rfl) (
  e_more (s_iconst (n := 4) (v := 4) (by decide +kernel) (by decide)) (
  e_more (e_call0 (s_callS (idx := 93) k_L_low (by decide +kernel) cl_L_low wd_871 wd_872 (by decide))) (
  e_more (s_callS (idx := 131) k_L_isText (by decide +kernel) cl_L_isText wd_398 wd_399 (by decide)) (
  e_more (s_if_eq (off := 7) (by decide +kernel) (by decide)) (
  e_more (s_iconst (n := 1) (v := 1) (by decide +kernel) (by decide)) (
  e_more (s_goto (off := 4) (by decide +kernel) (by decide)) (
  e_more (s_iconst (n := 0) (v := 0) (by decide +kernel) (by decide)) (
  e_more (s_zret (by decide +kernel) rfl) (
  e_no_more))))))))))))))))))))))))
def tb_L_act_12 : eTb := [(1081, t_ldO 0 1 1081), (1082, t_call0 1 w_X4_keep 1082), (1085, t_stI 8 2 1085), (1087, t_ldO 0 1 1087), (1088, t_ldI 2 1 1088), (1089, t_push (.inl 4) 1 1089), (1090, t_call0 2 w_L_low 1090), (1093, t_call 2 1 6 nw_X4_shortOf 1093), (1096, t_stI 9 2 1096), (1098, t_ldO 0 1 1098), (1099, t_push (.inl 7) 2 1099), (1101, t_call 2 1 6 nw_X4_count 1101), (1104, t_stI 10 2 1104), (1106, t_ldO 0 1 1106), (1107, t_push (.inl 6) 2 1107), (1109, t_call 2 1 6 nw_X4_count 1109), (1112, t_stI 11 2 1112), (1114, t_ldO 0 1 1114), (1115, t_push (.inl 4) 1 1115), (1116, t_call 2 1 6 nw_X4_count 1116), (1119, t_push (.inl 1) 1 1119), (1120, t_icn (fun a b => a = b) 1127 1120), (1123, t_push (.inl 1) 1 1123), (1124, t_goto 1128), (1127, t_push (.inl 0) 1 1127), (1128, t_stI 12 2 1128), (1130, t_ldO 0 1 1130), (1131, t_ldI 2 1 1131), (1132, t_push (.inl 4) 1 1132), (1133, t_call0 2 w_L_low 1133), (1136, t_call 2 1 6 w_L_tryMarch 1136), (1139, t_stI 13 2 1139), (1141, t_ldI 13 2 1141), (1143, t_if (fun a => 0 ≤ a) 1171 1143), (1146, t_ldI 13 2 1146), (1148, t_push (.inl (-7002)) 3 1148), (1151, t_icn (fun a b => a = b) 1169 1151), (1154, t_ldO 0 1 1154), (1155, t_push (.inl 6) 2 1155), (1157, t_call 2 1 6 nw_X4_count 1157), (1160, t_ldI 11 2 1160), (1162, t_icn (fun a b => a = b) 1169 1162), (1165, t_push (.inl 1) 1 1165), (1166, t_goto 1170), (1169, t_push (.inl 0) 1 1169), (1170, t_zret), (1171, t_ldI 12 2 1171), (1173, t_if (fun a => a = 0) 1225 1173), (1176, t_ldI 13 2 1176), (1178, t_ldI 9 2 1178), (1180, t_icn (fun a b => a = b) 1225 1180), (1183, t_ldO 0 1 1183), (1184, t_push (.inl 7) 2 1184), (1186, t_call 2 1 6 nw_X4_count 1186), (1189, t_ldI 10 2 1189), (1191, t_ldI 13 2 1191), (1193, t_ii (fun a b => a + b) 1193), (1194, t_icn (fun a b => a = b) 1225 1194), (1197, t_ldO 0 1 1197), (1198, t_push (.inl 6) 2 1198), (1200, t_call 2 1 6 nw_X4_count 1200), (1203, t_ldI 11 2 1203), (1205, t_push (.inl 1) 1 1205), (1206, t_ii (fun a b => a + b) 1206), (1207, t_icn (fun a b => a = b) 1225 1207), (1210, t_ldO 0 1 1210), (1211, t_push (.inl 0) 1 1211), (1212, t_call 2 1 6 w_L_tryMarch 1212), (1215, t_push (.inl (-7002)) 3 1215), (1218, t_icn (fun a b => a = b) 1225 1218), (1221, t_push (.inl 1) 1 1221), (1222, t_goto 1226), (1225, t_push (.inl 0) 1 1225), (1226, t_stI 14 2 1226), (1228, t_ldI 14 2 1228), (1230, t_if (fun a => a = 0) 1278 1230), (1233, t_ldI 2 1 1233), (1234, t_push (.inl 4) 1 1234), (1235, t_ii (fun a b => a >>> (b &&& 31)) 1235), (1236, t_push (.inl 3) 1 1236), (1237, t_call0 2 w_L_low 1237), (1240, t_if (fun a => 0 < a) 1274 1240), (1243, t_ldO 0 1 1243), (1244, t_call 1 1 6 nw_X4_restore 1244), (1247, t_ldI 8 2 1247), (1249, t_icn (fun a b => a = b) 1278 1249), (1252, t_ldO 0 1 1252), (1253, t_push (.inl 6) 2 1253), (1255, t_call 2 1 6 nw_X4_count 1255), (1258, t_ldI 11 2 1258), (1260, t_icn (fun a b => a = b) 1278 1260), (1263, t_ldO 0 1 1263), (1264, t_push (.inl 7) 2 1264), (1266, t_call 2 1 6 nw_X4_count 1266), (1269, t_ldI 10 2 1269), (1271, t_icn (fun a b => a = b) 1278 1271), (1274, t_push (.inl 1) 1 1274), (1275, t_goto 1279), (1278, t_push (.inl 0) 1 1278), (1279, t_zret)]
theorem st_L_act_12 : ∀ x ∈ tb_L_act_12, e_Sd e_rf RL i_L_act x.1 x.2 :=
  e_more (s_aload_n (k := 0) (by decide +kernel) rfl) (
  e_more (e_call0 (s_callV (c := 4) (idx := 134) k_X4_keep (by decide +kernel) cl_X4_keep (by decide) rfl wd_1071 wd_1072 wd_1073 (by decide) (e_sf_rec rfl))) (
  e_more (s_istore (by decide +kernel) (by decide)) (
  e_more (s_aload_n (k := 0) (by decide +kernel) rfl) (
  e_more (s_iload_n (k := 2) (by decide +kernel) rfl) (
  e_more (s_iconst (n := 4) (v := 4) (by decide +kernel) (by decide)) (
  e_more (e_call0 (s_callS (idx := 93) k_L_low (by decide +kernel) cl_L_low wd_871 wd_872 (by decide))) (
  e_more (s_callV (c := 4) (idx := 43) nk_X4_shortOf (by decide +kernel) cl_X4_shortOf (by decide) rfl wd_819 wd_820 wd_821 (by decide) nr_X4_shortOf) (
  e_more (s_istore (by decide +kernel) (by decide)) (
  e_more (s_aload_n (k := 0) (by decide +kernel) rfl) (
  e_more (s_bipush (n := 7) (v := 7) (by decide +kernel) (by decide)) (
  e_more (s_callV (c := 4) (idx := 58) nk_X4_count (by decide +kernel) cl_X4_count (by decide) rfl wd_746 wd_747 wd_748 (by decide) nr_X4_count) (
  e_more (s_istore (by decide +kernel) (by decide)) (
  e_more (s_aload_n (k := 0) (by decide +kernel) rfl) (
  e_more (s_bipush (n := 6) (v := 6) (by decide +kernel) (by decide)) (
  e_more (s_callV (c := 4) (idx := 58) nk_X4_count (by decide +kernel) cl_X4_count (by decide) rfl wd_746 wd_747 wd_748 (by decide) nr_X4_count) (
  e_more (s_istore (by decide +kernel) (by decide)) (
  e_more (s_aload_n (k := 0) (by decide +kernel) rfl) (
  e_more (s_iconst (n := 4) (v := 4) (by decide +kernel) (by decide)) (
  e_more (s_callV (c := 4) (idx := 58) nk_X4_count (by decide +kernel) cl_X4_count (by decide) rfl wd_746 wd_747 wd_748 (by decide) nr_X4_count) (
  e_more (s_iconst (n := 1) (v := 1) (by decide +kernel) (by decide)) (
  e_more (s_ic_ne (off := 7) (by decide +kernel) (by decide)) (
  e_more (s_iconst (n := 1) (v := 1) (by decide +kernel) (by decide)) (
  e_more (s_goto (off := 4) (by decide +kernel) (by decide)) (
  e_more (s_iconst (n := 0) (v := 0) (by decide +kernel) (by decide)) (
  e_more (s_istore (by decide +kernel) (by decide)) (
  e_more (s_aload_n (k := 0) (by decide +kernel) rfl) (
  e_more (s_iload_n (k := 2) (by decide +kernel) rfl) (
  e_more (s_iconst (n := 4) (v := 4) (by decide +kernel) (by decide)) (
  e_more (e_call0 (s_callS (idx := 93) k_L_low (by decide +kernel) cl_L_low wd_871 wd_872 (by decide))) (
  e_more (e_SdSH (fun G hG => s_callSH (idx := 137) hG k_L_tryMarch (by decide +kernel) cl_L_tryMarch wd_1075 wd_1076 (by decide))) (
  e_more (s_istore (by decide +kernel) (by decide)) (
  e_more (s_iload (by decide +kernel)) (
  e_more (s_if_ge (off := 28) (by decide +kernel) (by decide)) (
  e_more (s_iload (by decide +kernel)) (
  e_more (s_sipush (n := (-7002)) (v := (-7002)) (by decide +kernel) (by decide)) (
  e_more (s_ic_ne (off := 18) (by decide +kernel) (by decide)) (
  e_more (s_aload_n (k := 0) (by decide +kernel) rfl) (
  e_more (s_bipush (n := 6) (v := 6) (by decide +kernel) (by decide)) (
  e_more (s_callV (c := 4) (idx := 58) nk_X4_count (by decide +kernel) cl_X4_count (by decide) rfl wd_746 wd_747 wd_748 (by decide) nr_X4_count) (
  e_more (s_iload (by decide +kernel)) (
  e_more (s_ic_ne (off := 7) (by decide +kernel) (by decide)) (
  e_more (s_iconst (n := 1) (v := 1) (by decide +kernel) (by decide)) (
  e_more (s_goto (off := 4) (by decide +kernel) (by decide)) (
  e_more (s_iconst (n := 0) (v := 0) (by decide +kernel) (by decide)) (
  e_more (s_zret (by decide +kernel) rfl) (
  e_more (s_iload (by decide +kernel)) (
  e_more (s_if_eq (off := 52) (by decide +kernel) (by decide)) (
  e_more (s_iload (by decide +kernel)) (
  e_more (s_iload (by decide +kernel)) (
  e_more (s_ic_ne (off := 45) (by decide +kernel) (by decide)) (
  e_more (s_aload_n (k := 0) (by decide +kernel) rfl) (
  e_more (s_bipush (n := 7) (v := 7) (by decide +kernel) (by decide)) (
  e_more (s_callV (c := 4) (idx := 58) nk_X4_count (by decide +kernel) cl_X4_count (by decide) rfl wd_746 wd_747 wd_748 (by decide) nr_X4_count) (
  e_more (s_iload (by decide +kernel)) (
  e_more (s_iload (by decide +kernel)) (
  e_more (s_iadd (by decide +kernel)) (
  e_more (s_ic_ne (off := 31) (by decide +kernel) (by decide)) (
  e_more (s_aload_n (k := 0) (by decide +kernel) rfl) (
  e_more (s_bipush (n := 6) (v := 6) (by decide +kernel) (by decide)) (
  e_more (s_callV (c := 4) (idx := 58) nk_X4_count (by decide +kernel) cl_X4_count (by decide) rfl wd_746 wd_747 wd_748 (by decide) nr_X4_count) (
  e_more (s_iload (by decide +kernel)) (
  e_more (s_iconst (n := 1) (v := 1) (by decide +kernel) (by decide)) (
  e_more (s_iadd (by decide +kernel)) (
  e_more (s_ic_ne (off := 18) (by decide +kernel) (by decide)) (
  e_more (s_aload_n (k := 0) (by decide +kernel) rfl) (
  e_more (s_iconst (n := 0) (v := 0) (by decide +kernel) (by decide)) (
  e_more (e_SdSH (fun G hG => s_callSH (idx := 137) hG k_L_tryMarch (by decide +kernel) cl_L_tryMarch wd_1075 wd_1076 (by decide))) (
  e_more (s_sipush (n := (-7002)) (v := (-7002)) (by decide +kernel) (by decide)) (
  e_more (s_ic_ne (off := 7) (by decide +kernel) (by decide)) (
  e_more (s_iconst (n := 1) (v := 1) (by decide +kernel) (by decide)) (
  e_more (s_goto (off := 4) (by decide +kernel) (by decide)) (
  e_more (s_iconst (n := 0) (v := 0) (by decide +kernel) (by decide)) (
  e_more (s_istore (by decide +kernel) (by decide)) (
  e_more (s_iload (by decide +kernel)) (
  e_more (s_if_eq (off := 48) (by decide +kernel) (by decide)) (
  e_more (s_iload_n (k := 2) (by decide +kernel) rfl) (
  e_more (s_iconst (n := 4) (v := 4) (by decide +kernel) (by decide)) (
  e_more (s_ishr (by decide +kernel)) (
  e_more (s_iconst (n := 3) (v := 3) (by decide +kernel) (by decide)) (
  e_more (e_call0 (s_callS (idx := 93) k_L_low (by decide +kernel) cl_L_low wd_871 wd_872 (by decide))) (
  e_more (s_if_gt (off := 34) (by decide +kernel) (by decide)) (
  e_more (s_aload_n (k := 0) (by decide +kernel) rfl) (
  e_more (s_callV (c := 4) (idx := 140) nk_X4_restore (by decide +kernel) cl_X4_restore (by decide) rfl wd_1104 wd_1105 wd_1106 (by decide) nr_X4_restore) (
  e_more (s_iload (by decide +kernel)) (
  e_more (s_ic_ne (off := 29) (by decide +kernel) (by decide)) (
  e_more (s_aload_n (k := 0) (by decide +kernel) rfl) (
  e_more (s_bipush (n := 6) (v := 6) (by decide +kernel) (by decide)) (
  e_more (s_callV (c := 4) (idx := 58) nk_X4_count (by decide +kernel) cl_X4_count (by decide) rfl wd_746 wd_747 wd_748 (by decide) nr_X4_count) (
  e_more (s_iload (by decide +kernel)) (
  e_more (s_ic_ne (off := 18) (by decide +kernel) (by decide)) (
  e_more (s_aload_n (k := 0) (by decide +kernel) rfl) (
  e_more (s_bipush (n := 7) (v := 7) (by decide +kernel) (by decide)) (
  e_more (s_callV (c := 4) (idx := 58) nk_X4_count (by decide +kernel) cl_X4_count (by decide) rfl wd_746 wd_747 wd_748 (by decide) nr_X4_count) (
  e_more (s_iload (by decide +kernel)) (
  e_more (s_ic_ne (off := 7) (by decide +kernel) (by decide)) (
  e_more (s_iconst (n := 1) (v := 1) (by decide +kernel) (by decide)) (
  e_more (s_goto (off := 4) (by decide +kernel) (by decide)) (
  e_more (s_iconst (n := 0) (v := 0) (by decide +kernel) (by decide)) (
  e_more (s_zret (by decide +kernel) rfl) (
  e_no_more))))))))))))))))))))))))))))))))))))))))))))))))))))))))))))))))))))))))))))))))))))))))))))))))))))
def tb_L_act : eTb := tb_L_act_0 ++ tb_L_act_1 ++ tb_L_act_2 ++ tb_L_act_3 ++ tb_L_act_4 ++ tb_L_act_5 ++ tb_L_act_6 ++ tb_L_act_7 ++ tb_L_act_8 ++ tb_L_act_9 ++ tb_L_act_10 ++ tb_L_act_11 ++ tb_L_act_12
theorem st_L_act : ∀ x ∈ tb_L_act, e_Sd e_rf RL i_L_act x.1 x.2 := e_app (e_app (e_app (e_app (e_app (e_app (e_app (e_app (e_app (e_app (e_app (e_app (st_L_act_0) st_L_act_1) st_L_act_2) st_L_act_3) st_L_act_4) st_L_act_5) st_L_act_6) st_L_act_7) st_L_act_8) st_L_act_9) st_L_act_10) st_L_act_11) st_L_act_12
theorem mm_L_act_0 : ∀ x ∈ tb_L_act_0, x ∈ tb_L_act := fun x h => by unfold tb_L_act; exact List.mem_append_left _ (List.mem_append_left _ (List.mem_append_left _ (List.mem_append_left _ (List.mem_append_left _ (List.mem_append_left _ (List.mem_append_left _ (List.mem_append_left _ (List.mem_append_left _ (List.mem_append_left _ (List.mem_append_left _ (List.mem_append_left _ (h))))))))))))
theorem mm_L_act_1 : ∀ x ∈ tb_L_act_1, x ∈ tb_L_act := fun x h => by unfold tb_L_act; exact List.mem_append_left _ (List.mem_append_left _ (List.mem_append_left _ (List.mem_append_left _ (List.mem_append_left _ (List.mem_append_left _ (List.mem_append_left _ (List.mem_append_left _ (List.mem_append_left _ (List.mem_append_left _ (List.mem_append_left _ (List.mem_append_right _ h)))))))))))
theorem mm_L_act_2 : ∀ x ∈ tb_L_act_2, x ∈ tb_L_act := fun x h => by unfold tb_L_act; exact List.mem_append_left _ (List.mem_append_left _ (List.mem_append_left _ (List.mem_append_left _ (List.mem_append_left _ (List.mem_append_left _ (List.mem_append_left _ (List.mem_append_left _ (List.mem_append_left _ (List.mem_append_left _ (List.mem_append_right _ h))))))))))
theorem mm_L_act_3 : ∀ x ∈ tb_L_act_3, x ∈ tb_L_act := fun x h => by unfold tb_L_act; exact List.mem_append_left _ (List.mem_append_left _ (List.mem_append_left _ (List.mem_append_left _ (List.mem_append_left _ (List.mem_append_left _ (List.mem_append_left _ (List.mem_append_left _ (List.mem_append_left _ (List.mem_append_right _ h)))))))))
theorem mm_L_act_4 : ∀ x ∈ tb_L_act_4, x ∈ tb_L_act := fun x h => by unfold tb_L_act; exact List.mem_append_left _ (List.mem_append_left _ (List.mem_append_left _ (List.mem_append_left _ (List.mem_append_left _ (List.mem_append_left _ (List.mem_append_left _ (List.mem_append_left _ (List.mem_append_right _ h))))))))
theorem mm_L_act_5 : ∀ x ∈ tb_L_act_5, x ∈ tb_L_act := fun x h => by unfold tb_L_act; exact List.mem_append_left _ (List.mem_append_left _ (List.mem_append_left _ (List.mem_append_left _ (List.mem_append_left _ (List.mem_append_left _ (List.mem_append_left _ (List.mem_append_right _ h)))))))
theorem mm_L_act_6 : ∀ x ∈ tb_L_act_6, x ∈ tb_L_act := fun x h => by unfold tb_L_act; exact List.mem_append_left _ (List.mem_append_left _ (List.mem_append_left _ (List.mem_append_left _ (List.mem_append_left _ (List.mem_append_left _ (List.mem_append_right _ h))))))
theorem mm_L_act_7 : ∀ x ∈ tb_L_act_7, x ∈ tb_L_act := fun x h => by unfold tb_L_act; exact List.mem_append_left _ (List.mem_append_left _ (List.mem_append_left _ (List.mem_append_left _ (List.mem_append_left _ (List.mem_append_right _ h)))))
theorem mm_L_act_8 : ∀ x ∈ tb_L_act_8, x ∈ tb_L_act := fun x h => by unfold tb_L_act; exact List.mem_append_left _ (List.mem_append_left _ (List.mem_append_left _ (List.mem_append_left _ (List.mem_append_right _ h))))
theorem mm_L_act_9 : ∀ x ∈ tb_L_act_9, x ∈ tb_L_act := fun x h => by unfold tb_L_act; exact List.mem_append_left _ (List.mem_append_left _ (List.mem_append_left _ (List.mem_append_right _ h)))
theorem mm_L_act_10 : ∀ x ∈ tb_L_act_10, x ∈ tb_L_act := fun x h => by unfold tb_L_act; exact List.mem_append_left _ (List.mem_append_left _ (List.mem_append_right _ h))
theorem mm_L_act_11 : ∀ x ∈ tb_L_act_11, x ∈ tb_L_act := fun x h => by unfold tb_L_act; exact List.mem_append_left _ (List.mem_append_right _ h)
theorem mm_L_act_12 : ∀ x ∈ tb_L_act_12, x ∈ tb_L_act := fun x h => by unfold tb_L_act; exact List.mem_append_right _ h
def w_L_act : eW := e_rn tb_L_act (iL i_L_act) 366 19476
theorem k_L_act : e_OK e_rf i_L_act 366 19476 w_L_act := k_rn (own := RL) ⟨by decide +kernel, rfl⟩ st_L_act
