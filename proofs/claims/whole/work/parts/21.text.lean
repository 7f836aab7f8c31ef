/-! Text: tables and readings, by program. Own work. -/
abbrev i_X3_formOf : eI := (yX3_formOf, cX3_formOf, 1, (some (.object "java/lang/String")), 0)
theorem cl_X3_formOf : e_Cl i_X3_formOf 1 := ⟨wd_699, wd_77, ⟨by decide, by decide⟩, by decide +kernel, by decide⟩
def tb_X3_formOf : eTb := [(0, t_ldI 0 1 0), (1, t_sw [(0, 36), (1, 39), (2, 42), (3, 45), (4, 48)] 51), (36, t_push (aR 20 4) 2 36), (38, t_aret), (39, t_push (aR 20 5) 2 39), (41, t_aret), (42, t_push (aR 20 6) 2 42), (44, t_aret), (45, t_push (aR 20 7) 2 45), (47, t_aret), (48, t_push (aR 20 8) 2 48), (50, t_aret), (51, t_push (aR 20 9) 2 51), (53, t_aret)]
theorem st_X3_formOf : ∀ x ∈ tb_X3_formOf, e_Sd e_rf RX3 i_X3_formOf x.1 x.2 :=
  e_more (s_iload_n (k := 0) (by decide +kernel) rfl) (
  e_more (s_table (dflt := 50) (lo := 0) (hi := 4) (offs := #[35, 38, 41, 44, 47]) (len := 35) (l := [(0, 36), (1, 39), (2, 42), (3, 45), (4, 48)]) (by decide +kernel) (by decide +kernel) (by decide +kernel) (by decide)) (
  e_more (s_ldcS (i := 4) (n := 37) (by decide +kernel) (by decide) rfl rfl) (
  e_more (s_aret (by decide +kernel) rfl (by first | exact Or.inl ⟨_, rfl⟩ | exact Or.inr ⟨_, rfl⟩)) (
  e_more (s_ldcS (i := 5) (n := 39) (by decide +kernel) (by decide) rfl rfl) (
  e_more (s_aret (by decide +kernel) rfl (by first | exact Or.inl ⟨_, rfl⟩ | exact Or.inr ⟨_, rfl⟩)) (
  e_more (s_ldcS (i := 6) (n := 41) (by decide +kernel) (by decide) rfl rfl) (
  e_more (s_aret (by decide +kernel) rfl (by first | exact Or.inl ⟨_, rfl⟩ | exact Or.inr ⟨_, rfl⟩)) (
  e_more (s_ldcS (i := 7) (n := 43) (by decide +kernel) (by decide) rfl rfl) (
  e_more (s_aret (by decide +kernel) rfl (by first | exact Or.inl ⟨_, rfl⟩ | exact Or.inr ⟨_, rfl⟩)) (
  e_more (s_ldcS (i := 8) (n := 45) (by decide +kernel) (by decide) rfl rfl) (
  e_more (s_aret (by decide +kernel) rfl (by first | exact Or.inl ⟨_, rfl⟩ | exact Or.inr ⟨_, rfl⟩)) (
  e_more (s_ldcS (i := 9) (n := 47) (by decide +kernel) (by decide) rfl rfl) (
  e_more (s_aret (by decide +kernel) rfl (by first | exact Or.inl ⟨_, rfl⟩ | exact Or.inr ⟨_, rfl⟩)) (
  e_no_more))))))))))))))
def w_X3_formOf : eW := e_rn tb_X3_formOf (iL i_X3_formOf) 0 0
theorem k_X3_formOf : e_OK e_rf i_X3_formOf 0 0 w_X3_formOf := k_rn (own := RX3) ⟨by decide +kernel, rfl⟩ st_X3_formOf
abbrev i_X3_fits : eI := (yX3_fits, cX3_fits, 2, (some .boolean), 0)
theorem cl_X3_fits : e_Cl i_X3_fits 2 := ⟨wd_732, wd_77, ⟨by decide, by decide⟩, by decide +kernel, by decide⟩
def tb_X3_fits : eTb := [(0, t_ldI 1 1 0), (1, t_push (.inl 48) 2 1), (3, t_ic (fun a b => a < b) 29 3), (6, t_ldI 1 1 6), (7, t_push (.inl 57) 2 7), (9, t_ic (fun a b => b < a) 29 9), (12, t_ldI 0 1 12), (13, t_push (.inl 48) 2 13), (15, t_ic (fun a b => a < b) 27 15), (18, t_ldI 0 1 18), (19, t_ldI 1 1 19), (20, t_ic (fun a b => b < a) 27 20), (23, t_push (.inl 1) 1 23), (24, t_goto 28), (27, t_push (.inl 0) 1 27), (28, t_zret), (29, t_ldI 0 1 29), (30, t_ldI 1 1 30), (31, t_icn (fun a b => a = b) 38 31), (34, t_push (.inl 1) 1 34), (35, t_goto 39), (38, t_push (.inl 0) 1 38), (39, t_zret)]
theorem st_X3_fits : ∀ x ∈ tb_X3_fits, e_Sd e_rf RX3 i_X3_fits x.1 x.2 :=
  e_more (s_iload_n (k := 1) (by decide +kernel) rfl) (
  e_more (s_bipush (n := 48) (v := 48) (by decide +kernel) (by decide)) (
  e_more (s_ic_lt (off := 26) (by decide +kernel) (by decide)) (
  e_more (s_iload_n (k := 1) (by decide +kernel) rfl) (
  e_more (s_bipush (n := 57) (v := 57) (by decide +kernel) (by decide)) (
  e_more (s_ic_gt (off := 20) (by decide +kernel) (by decide)) (
  e_more (s_iload_n (k := 0) (by decide +kernel) rfl) (
  e_more (s_bipush (n := 48) (v := 48) (by decide +kernel) (by decide)) (
  e_more (s_ic_lt (off := 12) (by decide +kernel) (by decide)) (
  e_more (s_iload_n (k := 0) (by decide +kernel) rfl) (
  e_more (s_iload_n (k := 1) (by decide +kernel) rfl) (
  e_more (s_ic_gt (off := 7) (by decide +kernel) (by decide)) (
  e_more (s_iconst (n := 1) (v := 1) (by decide +kernel) (by decide)) (
  e_more (s_goto (off := 4) (by decide +kernel) (by decide)) (
  e_more (s_iconst (n := 0) (v := 0) (by decide +kernel) (by decide)) (
  e_more (s_zret (by decide +kernel) rfl) (
  e_more (s_iload_n (k := 0) (by decide +kernel) rfl) (
  e_more (s_iload_n (k := 1) (by decide +kernel) rfl) (
  e_more (s_ic_ne (off := 7) (by decide +kernel) (by decide)) (
  e_more (s_iconst (n := 1) (v := 1) (by decide +kernel) (by decide)) (
  e_more (s_goto (off := 4) (by decide +kernel) (by decide)) (
  e_more (s_iconst (n := 0) (v := 0) (by decide +kernel) (by decide)) (
  e_more (s_zret (by decide +kernel) rfl) (
  e_no_more)))))))))))))))))))))))
def w_X3_fits : eW := e_rn tb_X3_fits (iL i_X3_fits) 0 0
theorem k_X3_fits : e_OK e_rf i_X3_fits 0 0 w_X3_fits := k_rn (own := RX3) ⟨by decide +kernel, rfl⟩ st_X3_fits
abbrev i_X3_length : eI := (yX3_length, cX3_length, 1, (some .int), 2)
theorem cl_X3_length : e_Cl i_X3_length 0 := ⟨wd_317, wd_77, ⟨by decide, by decide⟩, by decide +kernel, by decide⟩
def tb_X3_length : eTb := [(0, t_ldO 0 1 0), (1, t_getR e_rf 3 0 1), (4, t_call0 1 w_J4_length_8abf5 4), (7, t_jret)]
theorem st_X3_length : ∀ x ∈ tb_X3_length, e_Sd e_rf RX3 i_X3_length x.1 x.2 :=
  e_more (s_aload_n (k := 0) (by decide +kernel) rfl) (
  e_more (s_getR (c := 3) (j := 0) (idx := 12) (by decide +kernel) (by decide) (by decide) rfl wd_279) (
  e_more (e_call0 (s_callV (c := 6) (idx := 18) k_J4_length_8abf5 (by decide +kernel) cl_J4_length_8abf5 (by decide) rfl wd_318 wd_319 wd_320 (by decide) (e_sf_rec rfl))) (
  e_more (s_jret (by decide +kernel) rfl) (
  e_no_more))))
def w_X3_length : eW := e_sf 12 (e_rn tb_X3_length (iL i_X3_length) 0 0)
theorem k_X3_length : e_OK e_rf i_X3_length 0 0 w_X3_length := k_sf (k_rn (own := RX3) ⟨by decide +kernel, rfl⟩ st_X3_length)
abbrev i_X3_add : eI := (yX3_add, cX3_add, 2, none, 8)
theorem cl_X3_add : e_Cl i_X3_add 1 := ⟨wd_1210, wd_77, ⟨by decide, by decide⟩, by decide +kernel, by decide⟩
def tb_X3_add : eTb := [(0, t_ldO 0 1 0), (1, t_getR e_rf 3 0 1), (4, t_ldI 1 1 4), (5, t_call 2 1 70 w_J4_append_cf468 5), (8, t_pop 8), (9, t_ret)]
theorem st_X3_add : ∀ x ∈ tb_X3_add, e_Sd e_rf RX3 i_X3_add x.1 x.2 :=
  e_more (s_aload_n (k := 0) (by decide +kernel) rfl) (
  e_more (s_getR (c := 3) (j := 0) (idx := 12) (by decide +kernel) (by decide) (by decide) rfl wd_279) (
  e_more (s_iload_n (k := 1) (by decide +kernel) rfl) (
  e_more (s_callV (c := 6) (idx := 22) k_J4_append_cf468 (by decide +kernel) cl_J4_append_cf468 (by decide) rfl wd_1211 wd_911 wd_912 (by decide) (e_sf_rec rfl)) (
  e_more (s_pop (by decide +kernel)) (
  e_more (s_ret (by decide +kernel) rfl) (
  e_no_more))))))
def w_X3_add : eW := e_sf 12 (e_rn tb_X3_add (iL i_X3_add) 1 70)
theorem k_X3_add : e_OK e_rf i_X3_add 1 70 w_X3_add := k_sf (k_rn (own := RX3) ⟨by decide +kernel, rfl⟩ st_X3_add)
abbrev i_X3_clear : eI := (yX3_clear, cX3_clear, 1, none, 22)
theorem cl_X3_clear : e_Cl i_X3_clear 0 := ⟨wd_328, wd_77, ⟨by decide, by decide⟩, by decide +kernel, by decide⟩
def tb_X3_clear : eTb := [(0, t_ldO 0 1 0), (1, t_getR e_rf 3 0 1), (4, t_push (.inl 0) 1 4), (5, t_call 2 1 70 w_J4_setLength_d00df 5), (8, t_ret)]
theorem st_X3_clear : ∀ x ∈ tb_X3_clear, e_Sd e_rf RX3 i_X3_clear x.1 x.2 :=
  e_more (s_aload_n (k := 0) (by decide +kernel) rfl) (
  e_more (s_getR (c := 3) (j := 0) (idx := 12) (by decide +kernel) (by decide) (by decide) rfl wd_279) (
  e_more (s_iconst (n := 0) (v := 0) (by decide +kernel) (by decide)) (
  e_more (s_callV (c := 6) (idx := 26) k_J4_setLength_d00df (by decide +kernel) cl_J4_setLength_d00df (by decide) rfl wd_329 wd_330 wd_331 (by decide) (e_sf_rec rfl)) (
  e_more (s_ret (by decide +kernel) rfl) (
  e_no_more)))))
def w_X3_clear : eW := e_sf 12 (e_rn tb_X3_clear (iL i_X3_clear) 1 70)
theorem k_X3_clear : e_OK e_rf i_X3_clear 1 70 w_X3_clear := k_sf (k_rn (own := RX3) ⟨by decide +kernel, rfl⟩ st_X3_clear)
abbrev i_X3_signAt : eI := (yX3_signAt, cX3_signAt, 2, (some .char), 4)
theorem cl_X3_signAt : e_Cl i_X3_signAt 1 := ⟨wd_677, wd_77, ⟨by decide, by decide⟩, by decide +kernel, by decide⟩
def tb_X3_signAt : eTb := [(0, t_ldI 1 1 0), (1, t_if (fun a => a < 0) 26 1), (4, t_ldI 1 1 4), (5, t_ldO 0 1 5), (6, t_getR e_rf 3 0 6), (9, t_call0 1 w_J4_length_8abf5 9), (12, t_ic (fun a b => b ≤ a) 26 12), (15, t_ldO 0 1 15), (16, t_getR e_rf 3 0 16), (19, t_ldI 1 1 19), (20, t_call0 2 w_J4_charAt_5068e 20), (23, t_goto 28), (26, t_push (.inl 32) 2 26), (28, t_iret .char)]
theorem st_X3_signAt : ∀ x ∈ tb_X3_signAt, e_Sd e_rf RX3 i_X3_signAt x.1 x.2 :=
  e_more (s_iload_n (k := 1) (by decide +kernel) rfl) (
  e_more (s_if_lt (off := 25) (by decide +kernel) (by decide)) (
  e_more (s_iload_n (k := 1) (by decide +kernel) rfl) (
  e_more (s_aload_n (k := 0) (by decide +kernel) rfl) (
  e_more (s_getR (c := 3) (j := 0) (idx := 12) (by decide +kernel) (by decide) (by decide) rfl wd_279) (
  e_more (e_call0 (s_callV (c := 6) (idx := 18) k_J4_length_8abf5 (by decide +kernel) cl_J4_length_8abf5 (by decide) rfl wd_318 wd_319 wd_320 (by decide) (e_sf_rec rfl))) (
  e_more (s_ic_ge (off := 14) (by decide +kernel) (by decide)) (
  e_more (s_aload_n (k := 0) (by decide +kernel) rfl) (
  e_more (s_getR (c := 3) (j := 0) (idx := 12) (by decide +kernel) (by decide) (by decide) rfl wd_279) (
  e_more (s_iload_n (k := 1) (by decide +kernel) rfl) (
  e_more (e_call0 (s_callV (c := 6) (idx := 30) k_J4_charAt_5068e (by decide +kernel) cl_J4_charAt_5068e (by decide) rfl wd_678 wd_679 wd_680 (by decide) (e_sf_rec rfl))) (
  e_more (s_goto (off := 5) (by decide +kernel) (by decide)) (
  e_more (s_bipush (n := 32) (v := 32) (by decide +kernel) (by decide)) (
  e_more (s_iret (by decide +kernel) rfl) (
  e_no_more))))))))))))))
def w_X3_signAt : eW := e_sf 12 (e_rn tb_X3_signAt (iL i_X3_signAt) 0 0)
theorem k_X3_signAt : e_OK e_rf i_X3_signAt 0 0 w_X3_signAt := k_sf (k_rn (own := RX3) ⟨by decide +kernel, rfl⟩ st_X3_signAt)
abbrev i_X3_figureAt : eI := (yX3_figureAt, cX3_figureAt, 3, (some .int), 5)
theorem cl_X3_figureAt : e_Cl i_X3_figureAt 1 := ⟨wd_1236, wd_77, ⟨by decide, by decide⟩, by decide +kernel, by decide⟩
def tb_X3_figureAt : eTb := [(0, t_ldO 0 1 0), (1, t_ldI 1 1 1), (2, t_call0 2 w_X3_signAt 2), (5, t_stI 2 1 5), (6, t_ldI 2 1 6), (7, t_push (.inl 48) 2 7), (9, t_ic (fun a b => a < b) 25 9), (12, t_ldI 2 1 12), (13, t_push (.inl 57) 2 13), (15, t_ic (fun a b => b < a) 25 15), (18, t_ldI 2 1 18), (19, t_push (.inl 48) 2 19), (21, t_ii (fun a b => a - b) 21), (22, t_goto 26), (25, t_push (.inl (-1)) 1 25), (26, t_jret)]
theorem st_X3_figureAt : ∀ x ∈ tb_X3_figureAt, e_Sd e_rf RX3 i_X3_figureAt x.1 x.2 :=
  e_more (s_aload_n (k := 0) (by decide +kernel) rfl) (
  e_more (s_iload_n (k := 1) (by decide +kernel) rfl) (
  e_more (e_call0 (s_callV (c := 3) (idx := 34) k_X3_signAt (by decide +kernel) cl_X3_signAt (by decide) rfl wd_674 wd_675 wd_676 (by decide) (e_sf_rec rfl))) (
  e_more (s_istore_n (k := 2) (by decide +kernel) rfl (by decide)) (
  e_more (s_iload_n (k := 2) (by decide +kernel) rfl) (
  e_more (s_bipush (n := 48) (v := 48) (by decide +kernel) (by decide)) (
  e_more (s_ic_lt (off := 16) (by decide +kernel) (by decide)) (
  e_more (s_iload_n (k := 2) (by decide +kernel) rfl) (
  e_more (s_bipush (n := 57) (v := 57) (by decide +kernel) (by decide)) (
  e_more (s_ic_gt (off := 10) (by decide +kernel) (by decide)) (
  e_more (s_iload_n (k := 2) (by decide +kernel) rfl) (
  e_more (s_bipush (n := 48) (v := 48) (by decide +kernel) (by decide)) (
  e_more (s_isub (by decide +kernel)) (
  e_more (s_goto (off := 4) (by decide +kernel) (by decide)) (
  e_more (s_iconst (n := (-1)) (v := (-1)) (by decide +kernel) (by decide)) (
  e_more (s_jret (by decide +kernel) rfl) (
  e_no_more))))))))))))))))
def w_X3_figureAt : eW := e_sf 12 (e_rn tb_X3_figureAt (iL i_X3_figureAt) 0 0)
theorem k_X3_figureAt : e_OK e_rf i_X3_figureAt 0 0 w_X3_figureAt := k_sf (k_rn (own := RX3) ⟨by decide +kernel, rfl⟩ st_X3_figureAt)
abbrev i_X3_begins : eI := (yX3_begins, cX3_begins, 5, (some .boolean), 5)
theorem cl_X3_begins : e_Cl i_X3_begins 3 := ⟨wd_710, wd_77, ⟨by decide, by decide⟩, by decide +kernel, by decide⟩
def tb_X3_begins : eTb := [(0, t_ldI 3 1 0), (1, t_ldI 2 1 1), (2, t_ii (fun a b => a - b) 2), (3, t_ldO 1 1 3), (4, t_call0 1 w_J0_length_8abf5 4), (7, t_ic (fun a b => a ≤ b) 12 7), (10, t_push (.inl 0) 1 10), (11, t_zret), (12, t_push (.inl 0) 1 12), (13, t_stI 4 2 13), (15, t_ldI 4 2 15), (17, t_ldI 3 1 17), (18, t_ldI 2 1 18), (19, t_ii (fun a b => a - b) 19), (20, t_ic (fun a b => b ≤ a) 60 20), (23, t_ldI 4 2 23), (25, t_ldO 1 1 25), (26, t_call0 1 w_J0_length_8abf5 26), (29, t_ic (fun a b => b ≤ a) 60 29), (32, t_ldO 0 1 32), (33, t_ldI 2 1 33), (34, t_ldI 4 2 34), (36, t_ii (fun a b => a + b) 36), (37, t_call0 2 w_X3_signAt 37), (40, t_ldO 1 1 40), (41, t_ldI 4 2 41), (43, t_call0 2 w_J0_charAt_5068e 43), (46, t_call0 2 w_X3_fits 46), (49, t_ifn (fun a => a = 0) 54 49), (52, t_push (.inl 0) 1 52), (53, t_zret), (54, t_iinc 4 1 54), (57, t_goto 15), (60, t_push (.inl 1) 1 60), (61, t_zret)]
theorem st_X3_begins : ∀ x ∈ tb_X3_begins, e_Sd e_rf RX3 i_X3_begins x.1 x.2 :=
  e_more (s_iload_n (k := 3) (by decide +kernel) rfl) (
  e_more (s_iload_n (k := 2) (by decide +kernel) rfl) (
  e_more (s_isub (by decide +kernel)) (
  e_more (s_aload_n (k := 1) (by decide +kernel) rfl) (
  e_more (e_call0 (s_callVL (idx := 49) k_J0_length_8abf5 (by decide +kernel) cl_J0_length_8abf5 rfl wd_706 wd_422 wd_423 (by decide) e_sl0_rec)) (
  e_more (s_ic_le (off := 5) (by decide +kernel) (by decide)) (
  e_more (s_iconst (n := 0) (v := 0) (by decide +kernel) (by decide)) (
  e_more (s_zret (by decide +kernel) rfl) (
  e_more (s_iconst (n := 0) (v := 0) (by decide +kernel) (by decide)) (
  e_more (s_istore (by decide +kernel) (by decide)) (
  e_more (s_iload (by decide +kernel)) (
  e_more (s_iload_n (k := 3) (by decide +kernel) rfl) (
  e_more (s_iload_n (k := 2) (by decide +kernel) rfl) (
  e_more (s_isub (by decide +kernel)) (
  e_more (s_ic_ge (off := 40) (by decide +kernel) (by decide)) (
  e_more (s_iload (by decide +kernel)) (
  e_more (s_aload_n (k := 1) (by decide +kernel) rfl) (
  e_more (e_call0 (s_callVL (idx := 49) k_J0_length_8abf5 (by decide +kernel) cl_J0_length_8abf5 rfl wd_706 wd_422 wd_423 (by decide) e_sl0_rec)) (
  e_more (s_ic_ge (off := 31) (by decide +kernel) (by decide)) (
  e_more (s_aload_n (k := 0) (by decide +kernel) rfl) (
  e_more (s_iload_n (k := 2) (by decide +kernel) rfl) (
  e_more (s_iload (by decide +kernel)) (
  e_more (s_iadd (by decide +kernel)) (
  e_more (e_call0 (s_callV (c := 3) (idx := 34) k_X3_signAt (by decide +kernel) cl_X3_signAt (by decide) rfl wd_674 wd_675 wd_676 (by decide) (e_sf_rec rfl))) (
  e_more (s_aload_n (k := 1) (by decide +kernel) rfl) (
  e_more (s_iload (by decide +kernel)) (
  e_more (e_call0 (s_callVL (idx := 52) k_J0_charAt_5068e (by decide +kernel) cl_J0_charAt_5068e rfl wd_711 wd_712 wd_713 (by decide) e_sl0_rec)) (
  e_more (e_call0 (s_callS (idx := 53) k_X3_fits (by decide +kernel) cl_X3_fits wd_730 wd_731 (by decide))) (
  e_more (s_if_ne (off := 5) (by decide +kernel) (by decide)) (
  e_more (s_iconst (n := 0) (v := 0) (by decide +kernel) (by decide)) (
  e_more (s_zret (by decide +kernel) rfl) (
  e_more (s_iinc (z := 1) (n := 1) (by decide +kernel) (by decide) (by decide)) (
  e_more (s_goto (off := (-42)) (by decide +kernel) (by decide)) (
  e_more (s_iconst (n := 1) (v := 1) (by decide +kernel) (by decide)) (
  e_more (s_zret (by decide +kernel) rfl) (
  e_no_more)))))))))))))))))))))))))))))))))))
def w_X3_begins : eW := e_sf 12 (e_rn tb_X3_begins (iL i_X3_begins) 0 0)
theorem k_X3_begins : e_OK e_rf i_X3_begins 0 0 w_X3_begins := k_sf (k_rn (own := RX3) ⟨by decide +kernel, rfl⟩ st_X3_begins)
abbrev i_X3_beginsAny : eI := (yX3_beginsAny, cX3_beginsAny, 4, (some .boolean), 6)
theorem cl_X3_beginsAny : e_Cl i_X3_beginsAny 2 := ⟨wd_736, wd_77, ⟨by decide, by decide⟩, by decide +kernel, by decide⟩
def tb_X3_beginsAny : eTb := [(0, t_push (.inl 0) 1 0), (1, t_stI 3 1 1), (2, t_ldI 3 1 2), (3, t_push (.inl 6) 2 3), (5, t_ic (fun a b => b ≤ a) 29 5), (8, t_ldO 0 1 8), (9, t_ldI 3 1 9), (10, t_call0 1 w_X3_formOf 10), (13, t_ldI 1 1 13), (14, t_ldI 2 1 14), (15, t_call0 4 w_X3_begins 15), (18, t_if (fun a => a = 0) 23 18), (21, t_push (.inl 1) 1 21), (22, t_zret), (23, t_iinc 3 1 23), (26, t_goto 2), (29, t_push (.inl 0) 1 29), (30, t_zret)]
theorem st_X3_beginsAny : ∀ x ∈ tb_X3_beginsAny, e_Sd e_rf RX3 i_X3_beginsAny x.1 x.2 :=
  e_more (s_iconst (n := 0) (v := 0) (by decide +kernel) (by decide)) (
  e_more (s_istore_n (k := 3) (by decide +kernel) rfl (by decide)) (
  e_more (s_iload_n (k := 3) (by decide +kernel) rfl) (
  e_more (s_bipush (n := 6) (v := 6) (by decide +kernel) (by decide)) (
  e_more (s_ic_ge (off := 24) (by decide +kernel) (by decide)) (
  e_more (s_aload_n (k := 0) (by decide +kernel) rfl) (
  e_more (s_iload_n (k := 3) (by decide +kernel) rfl) (
  e_more (e_call0 (s_callS (idx := 57) k_X3_formOf (by decide +kernel) cl_X3_formOf wd_697 wd_698 (by decide))) (
  e_more (s_iload_n (k := 1) (by decide +kernel) rfl) (
  e_more (s_iload_n (k := 2) (by decide +kernel) rfl) (
  e_more (e_call0 (s_callV (c := 3) (idx := 61) k_X3_begins (by decide +kernel) cl_X3_begins (by decide) rfl wd_707 wd_709 wd_1 (by decide) (e_sf_rec rfl))) (
  e_more (s_if_eq (off := 5) (by decide +kernel) (by decide)) (
  e_more (s_iconst (n := 1) (v := 1) (by decide +kernel) (by decide)) (
  e_more (s_zret (by decide +kernel) rfl) (
  e_more (s_iinc (z := 1) (n := 1) (by decide +kernel) (by decide) (by decide)) (
  e_more (s_goto (off := (-24)) (by decide +kernel) (by decide)) (
  e_more (s_iconst (n := 0) (v := 0) (by decide +kernel) (by decide)) (
  e_more (s_zret (by decide +kernel) rfl) (
  e_no_more))))))))))))))))))
def w_X3_beginsAny : eW := e_sf 12 (e_rn tb_X3_beginsAny (iL i_X3_beginsAny) 0 0)
theorem k_X3_beginsAny : e_OK e_rf i_X3_beginsAny 0 0 w_X3_beginsAny := k_sf (k_rn (own := RX3) ⟨by decide +kernel, rfl⟩ st_X3_beginsAny)
abbrev i_X3_wholeWord : eI := (yX3_wholeWord, cX3_wholeWord, 5, (some .int), 6)
theorem cl_X3_wholeWord : e_Cl i_X3_wholeWord 2 := ⟨wd_696, wd_77, ⟨by decide, by decide⟩, by decide +kernel, by decide⟩
def tb_X3_wholeWord : eTb := [(0, t_push (.inl 0) 1 0), (1, t_stI 3 1 1), (2, t_ldI 3 1 2), (3, t_push (.inl 6) 2 3), (5, t_ic (fun a b => b ≤ a) 44 5), (8, t_ldI 3 1 8), (9, t_call0 1 w_X3_formOf 9), (12, t_stO 4 2 12), (14, t_ldO 4 2 14), (16, t_call0 1 w_J0_length_8abf5 16), (19, t_ldI 2 1 19), (20, t_ldI 1 1 20), (21, t_ii (fun a b => a - b) 21), (22, t_icn (fun a b => a = b) 38 22), (25, t_ldO 0 1 25), (26, t_ldO 4 2 26), (28, t_ldI 1 1 28), (29, t_ldI 2 1 29), (30, t_call0 4 w_X3_begins 30), (33, t_if (fun a => a = 0) 38 33), (36, t_ldI 3 1 36), (37, t_jret), (38, t_iinc 3 1 38), (41, t_goto 2), (44, t_push (.inl (-1)) 1 44), (45, t_jret)]
theorem st_X3_wholeWord : ∀ x ∈ tb_X3_wholeWord, e_Sd e_rf RX3 i_X3_wholeWord x.1 x.2 :=
  e_more (s_iconst (n := 0) (v := 0) (by decide +kernel) (by decide)) (
  e_more (s_istore_n (k := 3) (by decide +kernel) rfl (by decide)) (
  e_more (s_iload_n (k := 3) (by decide +kernel) rfl) (
  e_more (s_bipush (n := 6) (v := 6) (by decide +kernel) (by decide)) (
  e_more (s_ic_ge (off := 39) (by decide +kernel) (by decide)) (
  e_more (s_iload_n (k := 3) (by decide +kernel) rfl) (
  e_more (e_call0 (s_callS (idx := 57) k_X3_formOf (by decide +kernel) cl_X3_formOf wd_697 wd_698 (by decide))) (
  e_more (s_astore (by decide +kernel) (by decide)) (
  e_more (s_aload (by decide +kernel)) (
  e_more (e_call0 (s_callVL (idx := 49) k_J0_length_8abf5 (by decide +kernel) cl_J0_length_8abf5 rfl wd_706 wd_422 wd_423 (by decide) e_sl0_rec)) (
  e_more (s_iload_n (k := 2) (by decide +kernel) rfl) (
  e_more (s_iload_n (k := 1) (by decide +kernel) rfl) (
  e_more (s_isub (by decide +kernel)) (
  e_more (s_ic_ne (off := 16) (by decide +kernel) (by decide)) (
  e_more (s_aload_n (k := 0) (by decide +kernel) rfl) (
  e_more (s_aload (by decide +kernel)) (
  e_more (s_iload_n (k := 1) (by decide +kernel) rfl) (
  e_more (s_iload_n (k := 2) (by decide +kernel) rfl) (
  e_more (e_call0 (s_callV (c := 3) (idx := 61) k_X3_begins (by decide +kernel) cl_X3_begins (by decide) rfl wd_707 wd_709 wd_1 (by decide) (e_sf_rec rfl))) (
  e_more (s_if_eq (off := 5) (by decide +kernel) (by decide)) (
  e_more (s_iload_n (k := 3) (by decide +kernel) rfl) (
  e_more (s_jret (by decide +kernel) rfl) (
  e_more (s_iinc (z := 1) (n := 1) (by decide +kernel) (by decide) (by decide)) (
  e_more (s_goto (off := (-39)) (by decide +kernel) (by decide)) (
  e_more (s_iconst (n := (-1)) (v := (-1)) (by decide +kernel) (by decide)) (
  e_more (s_jret (by decide +kernel) rfl) (
  e_no_more))))))))))))))))))))))))))
def w_X3_wholeWord : eW := e_sf 12 (e_rn tb_X3_wholeWord (iL i_X3_wholeWord) 0 0)
theorem k_X3_wholeWord : e_OK e_rf i_X3_wholeWord 0 0 w_X3_wholeWord := k_sf (k_rn (own := RX3) ⟨by decide +kernel, rfl⟩ st_X3_wholeWord)
abbrev i_X3_isEndOfPart : eI := (yX3_isEndOfPart, cX3_isEndOfPart, 2, (some .boolean), 5)
theorem cl_X3_isEndOfPart : e_Cl i_X3_isEndOfPart 1 := ⟨wd_1226, wd_77, ⟨by decide, by decide⟩, by decide +kernel, by decide⟩
def tb_X3_isEndOfPart : eTb := [(0, t_ldI 1 1 0), (1, t_ldO 0 1 1), (2, t_getR e_rf 3 0 2), (5, t_call0 1 w_J4_length_8abf5 5), (8, t_ic (fun a b => a = b) 21 8), (11, t_ldO 0 1 11), (12, t_ldI 1 1 12), (13, t_call0 2 w_X3_signAt 13), (16, t_push (.inl 59) 2 16), (18, t_icn (fun a b => a = b) 25 18), (21, t_push (.inl 1) 1 21), (22, t_goto 26), (25, t_push (.inl 0) 1 25), (26, t_zret)]
theorem st_X3_isEndOfPart : ∀ x ∈ tb_X3_isEndOfPart, e_Sd e_rf RX3 i_X3_isEndOfPart x.1 x.2 :=
  e_more (s_iload_n (k := 1) (by decide +kernel) rfl) (
  e_more (s_aload_n (k := 0) (by decide +kernel) rfl) (
  e_more (s_getR (c := 3) (j := 0) (idx := 12) (by decide +kernel) (by decide) (by decide) rfl wd_279) (
  e_more (e_call0 (s_callV (c := 6) (idx := 18) k_J4_length_8abf5 (by decide +kernel) cl_J4_length_8abf5 (by decide) rfl wd_318 wd_319 wd_320 (by decide) (e_sf_rec rfl))) (
  e_more (s_ic_eq (off := 13) (by decide +kernel) (by decide)) (
  e_more (s_aload_n (k := 0) (by decide +kernel) rfl) (
  e_more (s_iload_n (k := 1) (by decide +kernel) rfl) (
  e_more (e_call0 (s_callV (c := 3) (idx := 34) k_X3_signAt (by decide +kernel) cl_X3_signAt (by decide) rfl wd_674 wd_675 wd_676 (by decide) (e_sf_rec rfl))) (
  e_more (s_bipush (n := 59) (v := 59) (by decide +kernel) (by decide)) (
  e_more (s_ic_ne (off := 7) (by decide +kernel) (by decide)) (
  e_more (s_iconst (n := 1) (v := 1) (by decide +kernel) (by decide)) (
  e_more (s_goto (off := 4) (by decide +kernel) (by decide)) (
  e_more (s_iconst (n := 0) (v := 0) (by decide +kernel) (by decide)) (
  e_more (s_zret (by decide +kernel) rfl) (
  e_no_more))))))))))))))
def w_X3_isEndOfPart : eW := e_sf 12 (e_rn tb_X3_isEndOfPart (iL i_X3_isEndOfPart) 0 0)
theorem k_X3_isEndOfPart : e_OK e_rf i_X3_isEndOfPart 0 0 w_X3_isEndOfPart := k_sf (k_rn (own := RX3) ⟨by decide +kernel, rfl⟩ st_X3_isEndOfPart)
abbrev i_X3_firstWrong : eI := (yX3_firstWrong, cX3_firstWrong, 3, (some .int), 7)
theorem cl_X3_firstWrong : e_Cl i_X3_firstWrong 0 := ⟨wd_673, wd_77, ⟨by decide, by decide⟩, by decide +kernel, by decide⟩
def tb_X3_firstWrong : eTb := [(0, t_push (.inl 0) 1 0), (1, t_stI 1 1 1), (2, t_push (.inl 0) 1 2), (3, t_stI 2 1 3), (4, t_ldI 2 1 4), (5, t_ldO 0 1 5), (6, t_getR e_rf 3 0 6), (9, t_call0 1 w_J4_length_8abf5 9), (12, t_ic (fun a b => b ≤ a) 61 12), (15, t_ldO 0 1 15), (16, t_ldI 2 1 16), (17, t_call0 2 w_X3_signAt 17), (20, t_push (.inl 59) 2 20), (22, t_icn (fun a b => a = b) 42 22), (25, t_ldO 0 1 25), (26, t_ldI 1 1 26), (27, t_ldI 2 1 27), (28, t_call0 3 w_X3_wholeWord 28), (31, t_push (.inl (-1)) 1 31), (32, t_ic (fun a b => a = b) 42 32), (35, t_ldI 2 1 35), (36, t_push (.inl 1) 1 36), (37, t_ii (fun a b => a + b) 37), (38, t_stI 1 1 38), (39, t_goto 55), (42, t_ldO 0 1 42), (43, t_ldI 1 1 43), (44, t_ldI 2 1 44), (45, t_push (.inl 1) 1 45), (46, t_ii (fun a b => a + b) 46), (47, t_call0 3 w_X3_beginsAny 47), (50, t_ifn (fun a => a = 0) 55 50), (53, t_ldI 2 1 53), (54, t_jret), (55, t_iinc 2 1 55), (58, t_goto 4), (61, t_ldO 0 1 61), (62, t_getR e_rf 3 0 62), (65, t_call0 1 w_J4_length_8abf5 65), (68, t_jret)]
theorem st_X3_firstWrong : ∀ x ∈ tb_X3_firstWrong, e_Sd e_rf RX3 i_X3_firstWrong x.1 x.2 :=
  e_more (s_iconst (n := 0) (v := 0) (by decide +kernel) (by decide)) (
  e_more (s_istore_n (k := 1) (by decide +kernel) rfl (by decide)) (
  e_more (s_iconst (n := 0) (v := 0) (by decide +kernel) (by decide)) (
  e_more (s_istore_n (k := 2) (by decide +kernel) rfl (by decide)) (
  e_more (s_iload_n (k := 2) (by decide +kernel) rfl) (
  e_more (s_aload_n (k := 0) (by decide +kernel) rfl) (
  e_more (s_getR (c := 3) (j := 0) (idx := 12) (by decide +kernel) (by decide) (by decide) rfl wd_279) (
  e_more (e_call0 (s_callV (c := 6) (idx := 18) k_J4_length_8abf5 (by decide +kernel) cl_J4_length_8abf5 (by decide) rfl wd_318 wd_319 wd_320 (by decide) (e_sf_rec rfl))) (
  e_more (s_ic_ge (off := 49) (by decide +kernel) (by decide)) (
  e_more (s_aload_n (k := 0) (by decide +kernel) rfl) (
  e_more (s_iload_n (k := 2) (by decide +kernel) rfl) (
  e_more (e_call0 (s_callV (c := 3) (idx := 34) k_X3_signAt (by decide +kernel) cl_X3_signAt (by decide) rfl wd_674 wd_675 wd_676 (by decide) (e_sf_rec rfl))) (
  e_more (s_bipush (n := 59) (v := 59) (by decide +kernel) (by decide)) (
  e_more (s_ic_ne (off := 20) (by decide +kernel) (by decide)) (
  e_more (s_aload_n (k := 0) (by decide +kernel) rfl) (
  e_more (s_iload_n (k := 1) (by decide +kernel) rfl) (
  e_more (s_iload_n (k := 2) (by decide +kernel) rfl) (
  e_more (e_call0 (s_callV (c := 3) (idx := 65) k_X3_wholeWord (by decide +kernel) cl_X3_wholeWord (by decide) rfl wd_693 wd_694 wd_695 (by decide) (e_sf_rec rfl))) (
  e_more (s_iconst (n := (-1)) (v := (-1)) (by decide +kernel) (by decide)) (
  e_more (s_ic_eq (off := 10) (by decide +kernel) (by decide)) (
  e_more (s_iload_n (k := 2) (by decide +kernel) rfl) (
  e_more (s_iconst (n := 1) (v := 1) (by decide +kernel) (by decide)) (
  e_more (s_iadd (by decide +kernel)) (
  e_more (s_istore_n (k := 1) (by decide +kernel) rfl (by decide)) (
  e_more (s_goto (off := 16) (by decide +kernel) (by decide)) (
  e_more (s_aload_n (k := 0) (by decide +kernel) rfl) (
  e_more (s_iload_n (k := 1) (by decide +kernel) rfl) (
  e_more (s_iload_n (k := 2) (by decide +kernel) rfl) (
  e_more (s_iconst (n := 1) (v := 1) (by decide +kernel) (by decide)) (
  e_more (s_iadd (by decide +kernel)) (
  e_more (e_call0 (s_callV (c := 3) (idx := 69) k_X3_beginsAny (by decide +kernel) cl_X3_beginsAny (by decide) rfl wd_733 wd_735 wd_2 (by decide) (e_sf_rec rfl))) (
  e_more (s_if_ne (off := 5) (by decide +kernel) (by decide)) (
  e_more (s_iload_n (k := 2) (by decide +kernel) rfl) (
  e_more (s_jret (by decide +kernel) rfl) (
  e_more (s_iinc (z := 1) (n := 1) (by decide +kernel) (by decide) (by decide)) (
  e_more (s_goto (off := (-54)) (by decide +kernel) (by decide)) (
  e_more (s_aload_n (k := 0) (by decide +kernel) rfl) (
  e_more (s_getR (c := 3) (j := 0) (idx := 12) (by decide +kernel) (by decide) (by decide) rfl wd_279) (
  e_more (e_call0 (s_callV (c := 6) (idx := 18) k_J4_length_8abf5 (by decide +kernel) cl_J4_length_8abf5 (by decide) rfl wd_318 wd_319 wd_320 (by decide) (e_sf_rec rfl))) (
  e_more (s_jret (by decide +kernel) rfl) (
  e_no_more))))))))))))))))))))))))))))))))))))))))
def w_X3_firstWrong : eW := e_sf 12 (e_rn tb_X3_firstWrong (iL i_X3_firstWrong) 0 0)
theorem k_X3_firstWrong : e_OK e_rf i_X3_firstWrong 0 0 w_X3_firstWrong := k_sf (k_rn (own := RX3) ⟨by decide +kernel, rfl⟩ st_X3_firstWrong)
abbrev i_X3_isComplete : eI := (yX3_isComplete, cX3_isComplete, 3, (some .boolean), 7)
theorem cl_X3_isComplete : e_Cl i_X3_isComplete 0 := ⟨wd_1222, wd_77, ⟨by decide, by decide⟩, by decide +kernel, by decide⟩
def tb_X3_isComplete : eTb := [(0, t_push (.inl 0) 1 0), (1, t_stI 1 1 1), (2, t_push (.inl 0) 1 2), (3, t_stI 2 1 3), (4, t_ldI 2 1 4), (5, t_ldO 0 1 5), (6, t_getR e_rf 3 0 6), (9, t_call0 1 w_J4_length_8abf5 9), (12, t_ic (fun a b => b < a) 45 12), (15, t_ldO 0 1 15), (16, t_ldI 2 1 16), (17, t_call0 2 w_X3_isEndOfPart 17), (20, t_if (fun a => a = 0) 39 20), (23, t_ldO 0 1 23), (24, t_ldI 1 1 24), (25, t_ldI 2 1 25), (26, t_call0 3 w_X3_wholeWord 26), (29, t_push (.inl (-1)) 1 29), (30, t_icn (fun a b => a = b) 35 30), (33, t_push (.inl 0) 1 33), (34, t_zret), (35, t_ldI 2 1 35), (36, t_push (.inl 1) 1 36), (37, t_ii (fun a b => a + b) 37), (38, t_stI 1 1 38), (39, t_iinc 2 1 39), (42, t_goto 4), (45, t_push (.inl 1) 1 45), (46, t_zret)]
theorem st_X3_isComplete : ∀ x ∈ tb_X3_isComplete, e_Sd e_rf RX3 i_X3_isComplete x.1 x.2 :=
  e_more (s_iconst (n := 0) (v := 0) (by decide +kernel) (by decide)) (
  e_more (s_istore_n (k := 1) (by decide +kernel) rfl (by decide)) (
  e_more (s_iconst (n := 0) (v := 0) (by decide +kernel) (by decide)) (
  e_more (s_istore_n (k := 2) (by decide +kernel) rfl (by decide)) (
  e_more (s_iload_n (k := 2) (by decide +kernel) rfl) (
  e_more (s_aload_n (k := 0) (by decide +kernel) rfl) (
  e_more (s_getR (c := 3) (j := 0) (idx := 12) (by decide +kernel) (by decide) (by decide) rfl wd_279) (
  e_more (e_call0 (s_callV (c := 6) (idx := 18) k_J4_length_8abf5 (by decide +kernel) cl_J4_length_8abf5 (by decide) rfl wd_318 wd_319 wd_320 (by decide) (e_sf_rec rfl))) (
  e_more (s_ic_gt (off := 33) (by decide +kernel) (by decide)) (
  e_more (s_aload_n (k := 0) (by decide +kernel) rfl) (
  e_more (s_iload_n (k := 2) (by decide +kernel) rfl) (
  e_more (e_call0 (s_callV (c := 3) (idx := 73) k_X3_isEndOfPart (by decide +kernel) cl_X3_isEndOfPart (by decide) rfl wd_1223 wd_1224 wd_1225 (by decide) (e_sf_rec rfl))) (
  e_more (s_if_eq (off := 19) (by decide +kernel) (by decide)) (
  e_more (s_aload_n (k := 0) (by decide +kernel) rfl) (
  e_more (s_iload_n (k := 1) (by decide +kernel) rfl) (
  e_more (s_iload_n (k := 2) (by decide +kernel) rfl) (
  e_more (e_call0 (s_callV (c := 3) (idx := 65) k_X3_wholeWord (by decide +kernel) cl_X3_wholeWord (by decide) rfl wd_693 wd_694 wd_695 (by decide) (e_sf_rec rfl))) (
  e_more (s_iconst (n := (-1)) (v := (-1)) (by decide +kernel) (by decide)) (
  e_more (s_ic_ne (off := 5) (by decide +kernel) (by decide)) (
  e_more (s_iconst (n := 0) (v := 0) (by decide +kernel) (by decide)) (
  e_more (s_zret (by decide +kernel) rfl) (
  e_more (s_iload_n (k := 2) (by decide +kernel) rfl) (
  e_more (s_iconst (n := 1) (v := 1) (by decide +kernel) (by decide)) (
  e_more (s_iadd (by decide +kernel)) (
  e_more (s_istore_n (k := 1) (by decide +kernel) rfl (by decide)) (
  e_more (s_iinc (z := 1) (n := 1) (by decide +kernel) (by decide) (by decide)) (
  e_more (s_goto (off := (-38)) (by decide +kernel) (by decide)) (
  e_more (s_iconst (n := 1) (v := 1) (by decide +kernel) (by decide)) (
  e_more (s_zret (by decide +kernel) rfl) (
  e_no_more)))))))))))))))))))))))))))))
def w_X3_isComplete : eW := e_sf 12 (e_rn tb_X3_isComplete (iL i_X3_isComplete) 0 0)
theorem k_X3_isComplete : e_OK e_rf i_X3_isComplete 0 0 w_X3_isComplete := k_sf (k_rn (own := RX3) ⟨by decide +kernel, rfl⟩ st_X3_isComplete)
