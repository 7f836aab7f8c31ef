/-! BandCornets, piece 2: tables and readings, by program. Own work. -/
abbrev i_X4_nameOf : eI := (yX4_nameOf, cX4_nameOf, 1, (some (.object "java/lang/String")), 0)
theorem cl_X4_nameOf : e_Cl i_X4_nameOf 1 := ⟨wd_725, wd_15, ⟨by decide, by decide⟩, by decide +kernel, by decide⟩
def tb_X4_nameOf : eTb := [(0, t_ldI 0 1 0), (1, t_sw [(0, 28), (1, 32), (2, 36)] 40), (28, t_push (aR 20 0) 3 28), (31, t_aret), (32, t_push (aR 20 1) 3 32), (35, t_aret), (36, t_push (aR 20 2) 3 36), (39, t_aret), (40, t_push (aR 20 3) 3 40), (43, t_aret)]
theorem st_X4_nameOf : ∀ x ∈ tb_X4_nameOf, e_Sd e_rf RX4 i_X4_nameOf x.1 x.2 :=
  e_more (s_iload_n (k := 0) (by decide +kernel) rfl) (
  e_more (s_table (dflt := 39) (lo := 0) (hi := 2) (offs := #[27, 31, 35]) (len := 27) (l := [(0, 28), (1, 32), (2, 36)]) (by decide +kernel) (by decide +kernel) (by decide +kernel) (by decide)) (
  e_more (s_ldcwS (i := 0) (n := 391) (by decide +kernel) (by decide) rfl rfl) (
  e_more (s_aret (by decide +kernel) rfl (by first | exact Or.inl ⟨_, rfl⟩ | exact Or.inr ⟨_, rfl⟩)) (
  e_more (s_ldcwS (i := 1) (n := 393) (by decide +kernel) (by decide) rfl rfl) (
  e_more (s_aret (by decide +kernel) rfl (by first | exact Or.inl ⟨_, rfl⟩ | exact Or.inr ⟨_, rfl⟩)) (
  e_more (s_ldcwS (i := 2) (n := 395) (by decide +kernel) (by decide) rfl rfl) (
  e_more (s_aret (by decide +kernel) rfl (by first | exact Or.inl ⟨_, rfl⟩ | exact Or.inr ⟨_, rfl⟩)) (
  e_more (s_ldcwS (i := 3) (n := 397) (by decide +kernel) (by decide) rfl rfl) (
  e_more (s_aret (by decide +kernel) rfl (by first | exact Or.inl ⟨_, rfl⟩ | exact Or.inr ⟨_, rfl⟩)) (
  e_no_more))))))))))
def w_X4_nameOf : eW := e_rn tb_X4_nameOf (iL i_X4_nameOf) 0 0
theorem k_X4_nameOf : e_OK e_rf i_X4_nameOf 0 0 w_X4_nameOf := k_rn (own := RX4) ⟨by decide +kernel, rfl⟩ st_X4_nameOf
abbrev i_X4_undo : eI := (yX4_undo, cX4_undo, 1, (some .int), 10)
theorem cl_X4_undo : e_Cl i_X4_undo 0 := ⟨wd_1069, wd_15, ⟨by decide, by decide⟩, by decide +kernel, by decide⟩
def tb_X4_undo : eTb := [(0, t_ldO 0 1 0), (1, t_getI 4 4 1), (4, t_push (.inl 1) 1 4), (5, t_ic (fun a b => a < b) 20 5), (8, t_ldO 0 1 8), (9, t_getI 4 4 9), (12, t_ldO 0 1 12), (13, t_getR e_rf 4 3 13), (16, t_alen 16), (17, t_ic (fun a b => a ≤ b) 30 17), (20, t_throw "java/lang/IllegalStateException"), (30, t_ldO 0 1 30), (31, t_dup 31), (32, t_getI 4 4 32), (35, t_push (.inl 1) 1 35), (36, t_ii (fun a b => a - b) 36), (37, t_putI 4 4 37), (40, t_ldO 0 1 40), (41, t_getR e_rf 4 0 41), (44, t_ldO 0 1 44), (45, t_getR e_rf 4 3 45), (48, t_ldO 0 1 48), (49, t_getI 4 4 49), (52, t_aald e_rf 5 52), (53, t_call0 2 w_X0_copyFrom 53), (56, t_ldO 0 1 56), (57, t_getI 4 4 57), (60, t_jret)]
theorem st_X4_undo : ∀ x ∈ tb_X4_undo, e_Sd e_rf RX4 i_X4_undo x.1 x.2 :=
  e_more (s_aload_n (k := 0) (by decide +kernel) rfl) (
  e_more (s_getI (c := 4) (j := 4) (idx := 27) (by decide +kernel) (by decide) (by decide) rfl wd_229) (
  e_more (s_iconst (n := 1) (v := 1) (by decide +kernel) (by decide)) (
  e_more (s_ic_lt (off := 15) (by decide +kernel) (by decide)) (
  e_more (s_aload_n (k := 0) (by decide +kernel) rfl) (
  e_more (s_getI (c := 4) (j := 4) (idx := 27) (by decide +kernel) (by decide) (by decide) rfl wd_229) (
  e_more (s_aload_n (k := 0) (by decide +kernel) rfl) (
  e_more (s_getR (c := 4) (j := 3) (idx := 23) (by decide +kernel) (by decide) (by decide) rfl wd_228) (
  e_more (s_alen (by decide +kernel)) (
  e_more (s_ic_le (off := 13) (by decide +kernel) (by decide)) (
  e_more (s_throw (text := "no state is saved") (ik := 60) (is := 245) (ic := 64) ⟨rfl, by decide⟩ ⟨by decide +kernel, wd_884, wd_38, by decide +kernel, xat_64, by decide +kernel, by decide +kernel, (Or.inl ⟨by decide +kernel, by decide +kernel, by decide +kernel⟩)⟩) (
  e_more (s_aload_n (k := 0) (by decide +kernel) rfl) (
  e_more (s_dup (by decide +kernel)) (
  e_more (s_getI (c := 4) (j := 4) (idx := 27) (by decide +kernel) (by decide) (by decide) rfl wd_229) (
  e_more (s_iconst (n := 1) (v := 1) (by decide +kernel) (by decide)) (
  e_more (s_isub (by decide +kernel)) (
  e_more (s_putI (c := 4) (j := 4) (idx := 27) (by decide +kernel) (by decide) (by decide) rfl rfl wd_229) (
  e_more (s_aload_n (k := 0) (by decide +kernel) rfl) (
  e_more (s_getR (c := 4) (j := 0) (idx := 10) (by decide +kernel) (by decide) (by decide) rfl wd_225) (
  e_more (s_aload_n (k := 0) (by decide +kernel) rfl) (
  e_more (s_getR (c := 4) (j := 3) (idx := 23) (by decide +kernel) (by decide) (by decide) rfl wd_228) (
  e_more (s_aload_n (k := 0) (by decide +kernel) rfl) (
  e_more (s_getI (c := 4) (j := 4) (idx := 27) (by decide +kernel) (by decide) (by decide) rfl wd_229) (
  e_more (s_aald (by decide +kernel) (by decide)) (
  e_more (e_call0 (s_callV (c := 0) (idx := 247) k_X0_copyFrom (by decide +kernel) cl_X0_copyFrom (by decide) rfl wd_904 wd_905 wd_906 (by decide) (e_sf_rec rfl))) (
  e_more (s_aload_n (k := 0) (by decide +kernel) rfl) (
  e_more (s_getI (c := 4) (j := 4) (idx := 27) (by decide +kernel) (by decide) (by decide) rfl wd_229) (
  e_more (s_jret (by decide +kernel) rfl) (
  e_no_more))))))))))))))))))))))))))))
def x_X4_undo : eWX := e_sfx 0 (e_rnx tb_X4_undo (iL i_X4_undo) 1 6)
theorem kx_X4_undo : e_OX e_rf i_X4_undo 1 6 x_X4_undo := kx_sf (kx_rn (own := RX4) ⟨by decide +kernel, rfl⟩ st_X4_undo)
abbrev i_X4_keep : eI := (yX4_keep, cX4_keep, 1, (some .int), 2)
theorem cl_X4_keep : e_Cl i_X4_keep 0 := ⟨wd_1074, wd_15, ⟨by decide, by decide⟩, by decide +kernel, by decide⟩
def tb_X4_keep : eTb := [(0, t_ldO 0 1 0), (1, t_getR e_rf 4 1 1), (4, t_ldO 0 1 4), (5, t_getR e_rf 4 0 5), (8, t_call0 2 w_X0_copyFrom 8), (11, t_ldO 0 1 11), (12, t_push (.inl 1) 1 12), (13, t_putN .boolean 4 2 13), (16, t_ldO 0 1 16), (17, t_getR e_rf 4 0 17), (20, t_getI 0 7 20), (23, t_jret)]
theorem st_X4_keep : ∀ x ∈ tb_X4_keep, e_Sd e_rf RX4 i_X4_keep x.1 x.2 :=
  e_more (s_aload_n (k := 0) (by decide +kernel) rfl) (
  e_more (s_getR (c := 4) (j := 1) (idx := 16) (by decide +kernel) (by decide) (by decide) rfl wd_226) (
  e_more (s_aload_n (k := 0) (by decide +kernel) rfl) (
  e_more (s_getR (c := 4) (j := 0) (idx := 10) (by decide +kernel) (by decide) (by decide) rfl wd_225) (
  e_more (e_call0 (s_callV (c := 0) (idx := 247) k_X0_copyFrom (by decide +kernel) cl_X0_copyFrom (by decide) rfl wd_904 wd_905 wd_906 (by decide) (e_sf_rec rfl))) (
  e_more (s_aload_n (k := 0) (by decide +kernel) rfl) (
  e_more (s_iconst (n := 1) (v := 1) (by decide +kernel) (by decide)) (
  e_more (s_putN (c := 4) (j := 2) (idx := 19) (by decide +kernel) (by decide) (by decide) rfl rfl rfl wd_227) (
  e_more (s_aload_n (k := 0) (by decide +kernel) rfl) (
  e_more (s_getR (c := 4) (j := 0) (idx := 10) (by decide +kernel) (by decide) (by decide) rfl wd_225) (
  e_more (s_getI (c := 0) (j := 7) (idx := 173) (by decide +kernel) (by decide) (by decide) rfl wd_132) (
  e_more (s_jret (by decide +kernel) rfl) (
  e_no_more))))))))))))
def w_X4_keep : eW := e_sf 0 (e_rn tb_X4_keep (iL i_X4_keep) 0 0)
theorem k_X4_keep : e_OK e_rf i_X4_keep 0 0 w_X4_keep := k_sf (k_rn (own := RX4) ⟨by decide +kernel, rfl⟩ st_X4_keep)
abbrev i_X4_restore : eI := (yX4_restore, cX4_restore, 1, (some .int), 10)
theorem cl_X4_restore : e_Cl i_X4_restore 0 := ⟨wd_1107, wd_15, ⟨by decide, by decide⟩, by decide +kernel, by decide⟩
def tb_X4_restore : eTb := [(0, t_ldO 0 1 0), (1, t_getI 4 2 1), (4, t_ifn (fun a => a = 0) 17 4), (7, t_throw "java/lang/IllegalStateException"), (17, t_ldO 0 1 17), (18, t_call0 1 w_X4_save 18), (21, t_ldO 0 1 21), (22, t_getR e_rf 4 0 22), (25, t_ldO 0 1 25), (26, t_getR e_rf 4 1 26), (29, t_call0 2 w_X0_copyFrom 29), (32, t_ldO 0 1 32), (33, t_getR e_rf 4 0 33), (36, t_getI 0 7 36), (39, t_jret)]
theorem st_X4_restore : ∀ x ∈ tb_X4_restore, e_Sd e_rf RX4 i_X4_restore x.1 x.2 :=
  e_more (s_aload_n (k := 0) (by decide +kernel) rfl) (
  e_more (s_getI (c := 4) (j := 2) (idx := 19) (by decide +kernel) (by decide) (by decide) rfl wd_227) (
  e_more (s_if_ne (off := 13) (by decide +kernel) (by decide)) (
  e_more (s_throw (text := "there is no snapshot") (ik := 60) (is := 251) (ic := 64) ⟨rfl, by decide⟩ ⟨by decide +kernel, wd_884, wd_38, by decide +kernel, xat_64, by decide +kernel, by decide +kernel, (Or.inl ⟨by decide +kernel, by decide +kernel, by decide +kernel⟩)⟩) (
  e_more (s_aload_n (k := 0) (by decide +kernel) rfl) (
  e_more (e_call0 (s_callV (c := 4) (idx := 65) k_X4_save (by decide +kernel) cl_X4_save (by decide) rfl wd_900 wd_902 wd_11 (by decide) (e_sf_rec rfl))) (
  e_more (s_aload_n (k := 0) (by decide +kernel) rfl) (
  e_more (s_getR (c := 4) (j := 0) (idx := 10) (by decide +kernel) (by decide) (by decide) rfl wd_225) (
  e_more (s_aload_n (k := 0) (by decide +kernel) rfl) (
  e_more (s_getR (c := 4) (j := 1) (idx := 16) (by decide +kernel) (by decide) (by decide) rfl wd_226) (
  e_more (e_call0 (s_callV (c := 0) (idx := 247) k_X0_copyFrom (by decide +kernel) cl_X0_copyFrom (by decide) rfl wd_904 wd_905 wd_906 (by decide) (e_sf_rec rfl))) (
  e_more (s_aload_n (k := 0) (by decide +kernel) rfl) (
  e_more (s_getR (c := 4) (j := 0) (idx := 10) (by decide +kernel) (by decide) (by decide) rfl wd_225) (
  e_more (s_getI (c := 0) (j := 7) (idx := 173) (by decide +kernel) (by decide) (by decide) rfl wd_132) (
  e_more (s_jret (by decide +kernel) rfl) (
  e_no_more)))))))))))))))
def x_X4_restore : eWX := e_sfx 0 (e_rnx tb_X4_restore (iL i_X4_restore) 1 6)
theorem kx_X4_restore : e_OX e_rf i_X4_restore 1 6 x_X4_restore := kx_sf (kx_rn (own := RX4) ⟨by decide +kernel, rfl⟩ st_X4_restore)
abbrev i_X4_pupilOf : eI := (yX4_pupilOf, cX4_pupilOf, 4, (some .int), 10)
theorem cl_X4_pupilOf : e_Cl i_X4_pupilOf 2 := ⟨wd_772, wd_15, ⟨by decide, by decide⟩, by decide +kernel, by decide⟩
def tb_X4_pupilOf : eTb := [(0, t_ldO 0 1 0), (1, t_getR e_rf 4 0 1), (4, t_ldI 1 1 4), (5, t_call0 2 w_X0_pupilAt 5), (8, t_stO 3 1 8), (9, t_ldO 3 1 9), (10, t_nonnull 23 10), (13, t_throw "java/lang/IndexOutOfBoundsException"), (23, t_ldI 2 1 23), (24, t_if (fun a => a < 0) 33 24), (27, t_ldI 2 1 27), (28, t_push (.inl 7) 2 28), (30, t_ic (fun a b => a < b) 43 30), (33, t_throw "java/lang/IllegalArgumentException"), (43, t_ldO 3 1 43), (44, t_ldI 2 1 44), (45, t_call0 2 w_X2_number 45), (48, t_jret)]
theorem st_X4_pupilOf : ∀ x ∈ tb_X4_pupilOf, e_Sd e_rf RX4 i_X4_pupilOf x.1 x.2 :=
  e_more (s_aload_n (k := 0) (by decide +kernel) rfl) (
  e_more (s_getR (c := 4) (j := 0) (idx := 10) (by decide +kernel) (by decide) (by decide) rfl wd_225) (
  e_more (s_iload_n (k := 1) (by decide +kernel) rfl) (
  e_more (e_call0 (s_callV (c := 0) (idx := 86) k_X0_pupilAt (by decide +kernel) cl_X0_pupilAt (by decide) rfl wd_330 wd_331 wd_332 (by decide) (e_sf_rec rfl))) (
  e_more (s_astore_n (k := 3) (by decide +kernel) rfl (by decide)) (
  e_more (s_aload_n (k := 3) (by decide +kernel) rfl) (
  e_more (s_ifnonnull (off := 13) (by decide +kernel) (by decide)) (
  e_more (s_throw (text := "no such pupil") (ik := 90) (is := 143) (ic := 94) ⟨rfl, by decide⟩ ⟨by decide +kernel, wd_257, wd_28, by decide +kernel, xat_94, by decide +kernel, by decide +kernel, (Or.inl ⟨by decide +kernel, by decide +kernel, by decide +kernel⟩)⟩) (
  e_more (s_iload_n (k := 2) (by decide +kernel) rfl) (
  e_more (s_if_lt (off := 9) (by decide +kernel) (by decide)) (
  e_more (s_iload_n (k := 2) (by decide +kernel) rfl) (
  e_more (s_bipush (n := 7) (v := 7) (by decide +kernel) (by decide)) (
  e_more (s_ic_lt (off := 13) (by decide +kernel) (by decide)) (
  e_more (s_throw (text := "what is 0 to 6") (ik := 49) (is := 253) (ic := 53) ⟨rfl, by decide⟩ ⟨by decide +kernel, wd_406, wd_27, by decide +kernel, xat_53, by decide +kernel, by decide +kernel, (Or.inl ⟨by decide +kernel, by decide +kernel, by decide +kernel⟩)⟩) (
  e_more (s_aload_n (k := 3) (by decide +kernel) rfl) (
  e_more (s_iload_n (k := 2) (by decide +kernel) rfl) (
  e_more (e_call0 (s_callV (c := 2) (idx := 255) k_X2_number (by decide +kernel) cl_X2_number (by decide) rfl wd_775 wd_776 wd_777 (by decide) (e_sf_rec rfl))) (
  e_more (s_jret (by decide +kernel) rfl) (
  e_no_more))))))))))))))))))
def x_X4_pupilOf : eWX := e_sfx 0 (e_rnx tb_X4_pupilOf (iL i_X4_pupilOf) 1 6)
theorem kx_X4_pupilOf : e_OX e_rf i_X4_pupilOf 1 6 x_X4_pupilOf := kx_sf (kx_rn (own := RX4) ⟨by decide +kernel, rfl⟩ st_X4_pupilOf)
abbrev i_X4_instrumentOf : eI := (yX4_instrumentOf, cX4_instrumentOf, 4, (some .int), 10)
theorem cl_X4_instrumentOf : e_Cl i_X4_instrumentOf 2 := ⟨wd_782, wd_15, ⟨by decide, by decide⟩, by decide +kernel, by decide⟩
def tb_X4_instrumentOf : eTb := [(0, t_ldO 0 1 0), (1, t_getR e_rf 4 0 1), (4, t_ldI 1 1 4), (5, t_call0 2 w_X0_instrumentAt 5), (8, t_stO 3 1 8), (9, t_ldO 3 1 9), (10, t_nonnull 23 10), (13, t_throw "java/lang/IndexOutOfBoundsException"), (23, t_ldI 2 1 23), (24, t_if (fun a => a < 0) 33 24), (27, t_ldI 2 1 27), (28, t_push (.inl 6) 2 28), (30, t_ic (fun a b => a < b) 44 30), (33, t_throw "java/lang/IllegalArgumentException"), (44, t_ldO 3 1 44), (45, t_ldI 2 1 45), (46, t_call0 2 w_X1_number 46), (49, t_jret)]
theorem st_X4_instrumentOf : ∀ x ∈ tb_X4_instrumentOf, e_Sd e_rf RX4 i_X4_instrumentOf x.1 x.2 :=
  e_more (s_aload_n (k := 0) (by decide +kernel) rfl) (
  e_more (s_getR (c := 4) (j := 0) (idx := 10) (by decide +kernel) (by decide) (by decide) rfl wd_225) (
  e_more (s_iload_n (k := 1) (by decide +kernel) rfl) (
  e_more (e_call0 (s_callV (c := 0) (idx := 82) k_X0_instrumentAt (by decide +kernel) cl_X0_instrumentAt (by decide) rfl wd_338 wd_339 wd_340 (by decide) (e_sf_rec rfl))) (
  e_more (s_astore_n (k := 3) (by decide +kernel) rfl (by decide)) (
  e_more (s_aload_n (k := 3) (by decide +kernel) rfl) (
  e_more (s_ifnonnull (off := 13) (by decide +kernel) (by decide)) (
  e_more (s_throw (text := "no such instrument") (ik := 90) (is := 108) (ic := 94) ⟨rfl, by decide⟩ ⟨by decide +kernel, wd_257, wd_28, by decide +kernel, xat_94, by decide +kernel, by decide +kernel, (Or.inl ⟨by decide +kernel, by decide +kernel, by decide +kernel⟩)⟩) (
  e_more (s_iload_n (k := 2) (by decide +kernel) rfl) (
  e_more (s_if_lt (off := 9) (by decide +kernel) (by decide)) (
  e_more (s_iload_n (k := 2) (by decide +kernel) rfl) (
  e_more (s_bipush (n := 6) (v := 6) (by decide +kernel) (by decide)) (
  e_more (s_ic_lt (off := 14) (by decide +kernel) (by decide)) (
  e_more (s_throw (text := "what is 0 to 5") (ik := 49) (is := 258) (ic := 53) ⟨rfl, by decide⟩ ⟨by decide +kernel, wd_406, wd_27, by decide +kernel, xat_53, by decide +kernel, by decide +kernel, (Or.inr ⟨by decide +kernel, by decide +kernel, by decide +kernel⟩)⟩) (
  e_more (s_aload_n (k := 3) (by decide +kernel) rfl) (
  e_more (s_iload_n (k := 2) (by decide +kernel) rfl) (
  e_more (e_call0 (s_callV (c := 1) (idx := 260) k_X1_number (by decide +kernel) cl_X1_number (by decide) rfl wd_785 wd_786 wd_787 (by decide) (e_sf_rec rfl))) (
  e_more (s_jret (by decide +kernel) rfl) (
  e_no_more))))))))))))))))))
def x_X4_instrumentOf : eWX := e_sfx 0 (e_rnx tb_X4_instrumentOf (iL i_X4_instrumentOf) 1 6)
theorem kx_X4_instrumentOf : e_OX e_rf i_X4_instrumentOf 1 6 x_X4_instrumentOf := kx_sf (kx_rn (own := RX4) ⟨by decide +kernel, rfl⟩ st_X4_instrumentOf)
abbrev i_X4_loan : eI := (yX4_loan, cX4_loan, 2, (some .int), 10)
theorem cl_X4_loan : e_Cl i_X4_loan 1 := ⟨wd_862, wd_15, ⟨by decide, by decide⟩, by decide +kernel, by decide⟩
def tb_X4_loan : eTb := [(0, t_ldI 1 1 0), (1, t_if (fun a => 0 ≤ a) 15 1), (4, t_throw "java/lang/IllegalArgumentException"), (15, t_ldO 0 1 15), (16, t_getR e_rf 4 0 16), (19, t_ldI 1 1 19), (20, t_call0 2 w_X0_loanAt 20), (23, t_jret)]
theorem st_X4_loan : ∀ x ∈ tb_X4_loan, e_Sd e_rf RX4 i_X4_loan x.1 x.2 :=
  e_more (s_iload_n (k := 1) (by decide +kernel) rfl) (
  e_more (s_if_ge (off := 14) (by decide +kernel) (by decide)) (
  e_more (s_throw (text := "a place is 0 or more") (ik := 49) (is := 261) (ic := 53) ⟨rfl, by decide⟩ ⟨by decide +kernel, wd_406, wd_27, by decide +kernel, xat_53, by decide +kernel, by decide +kernel, (Or.inr ⟨by decide +kernel, by decide +kernel, by decide +kernel⟩)⟩) (
  e_more (s_aload_n (k := 0) (by decide +kernel) rfl) (
  e_more (s_getR (c := 4) (j := 0) (idx := 10) (by decide +kernel) (by decide) (by decide) rfl wd_225) (
  e_more (s_iload_n (k := 1) (by decide +kernel) rfl) (
  e_more (e_call0 (s_callV (c := 0) (idx := 263) k_X0_loanAt (by decide +kernel) cl_X0_loanAt (by decide) rfl wd_864 wd_865 wd_866 (by decide) (e_sf_rec rfl))) (
  e_more (s_jret (by decide +kernel) rfl) (
  e_no_more))))))))
def x_X4_loan : eWX := e_sfx 0 (e_rnx tb_X4_loan (iL i_X4_loan) 1 6)
theorem kx_X4_loan : e_OX e_rf i_X4_loan 1 6 x_X4_loan := kx_sf (kx_rn (own := RX4) ⟨by decide +kernel, rfl⟩ st_X4_loan)
abbrev i_X4_partNumber : eI := (yX4_partNumber, cX4_partNumber, 4, (some .int), 4)
theorem cl_X4_partNumber : e_Cl i_X4_partNumber 3 := ⟨wd_425, wd_15, ⟨by decide, by decide⟩, by decide +kernel, by decide⟩
def tb_X4_partNumber : eTb := [(0, t_ldI 3 1 0), (1, t_sw [(0, 28), (1, 34), (2, 39)] 45), (28, t_ldI 1 1 28), (29, t_ldI 2 1 29), (30, t_call0 2 w_X4_kindOfPart 30), (33, t_jret), (34, t_ldI 2 1 34), (35, t_call0 1 w_X4_breathOfPart 35), (38, t_jret), (39, t_ldI 1 1 39), (40, t_ldI 2 1 40), (41, t_call0 2 w_X4_lipsOfPart 41), (44, t_jret), (45, t_ldO 0 1 45), (46, t_ldI 1 1 46), (47, t_call0 2 w_X4_fillLineUp 47), (50, t_pop 50), (51, t_ldO 0 1 51), (52, t_ldI 2 1 52), (53, t_call0 2 w_X4_playerOf 53), (56, t_jret)]
theorem st_X4_partNumber : ∀ x ∈ tb_X4_partNumber, e_Sd e_rf RX4 i_X4_partNumber x.1 x.2 :=
  e_more (s_iload_n (k := 3) (by decide +kernel) rfl) (
  e_more (s_table (dflt := 44) (lo := 0) (hi := 2) (offs := #[27, 33, 38]) (len := 27) (l := [(0, 28), (1, 34), (2, 39)]) (by decide +kernel) (by decide +kernel) (by decide +kernel) (by decide)) (
  e_more (s_iload_n (k := 1) (by decide +kernel) rfl) (
  e_more (s_iload_n (k := 2) (by decide +kernel) rfl) (
  e_more (e_call0 (s_callS (idx := 331) k_X4_kindOfPart (by decide +kernel) cl_X4_kindOfPart wd_346 wd_347 (by decide))) (
  e_more (s_jret (by decide +kernel) rfl) (
  e_more (s_iload_n (k := 2) (by decide +kernel) rfl) (
  e_more (e_call0 (s_callS (idx := 334) k_X4_breathOfPart (by decide +kernel) cl_X4_breathOfPart wd_349 wd_350 (by decide))) (
  e_more (s_jret (by decide +kernel) rfl) (
  e_more (s_iload_n (k := 1) (by decide +kernel) rfl) (
  e_more (s_iload_n (k := 2) (by decide +kernel) rfl) (
  e_more (e_call0 (s_callS (idx := 337) k_X4_lipsOfPart (by decide +kernel) cl_X4_lipsOfPart wd_352 wd_353 (by decide))) (
  e_more (s_jret (by decide +kernel) rfl) (
  e_more (s_aload_n (k := 0) (by decide +kernel) rfl) (
  e_more (s_iload_n (k := 1) (by decide +kernel) rfl) (
  e_more (e_call0 (s_callV (c := 4) (idx := 279) k_X4_fillLineUp (by decide +kernel) cl_X4_fillLineUp (by decide) rfl wd_371 wd_373 wd_3 (by decide) (e_sf_rec rfl))) (
  e_more (s_pop (by decide +kernel)) (
  e_more (s_aload_n (k := 0) (by decide +kernel) rfl) (
  e_more (s_iload_n (k := 2) (by decide +kernel) rfl) (
  e_more (e_call0 (s_callV (c := 4) (idx := 340) k_X4_playerOf (by decide +kernel) cl_X4_playerOf (by decide) rfl wd_426 wd_428 wd_7 (by decide) (e_sf_rec rfl))) (
  e_more (s_jret (by decide +kernel) rfl) (
  e_no_more)))))))))))))))))))))
def w_X4_partNumber : eW := e_sf 0 (e_rn tb_X4_partNumber (iL i_X4_partNumber) 0 0)
theorem k_X4_partNumber : e_OK e_rf i_X4_partNumber 0 0 w_X4_partNumber := k_sf (k_rn (own := RX4) ⟨by decide +kernel, rfl⟩ st_X4_partNumber)
abbrev i_X4_part : eI := (yX4_part, cX4_part, 4, (some .int), 10)
theorem cl_X4_part : e_Cl i_X4_part 3 := ⟨wd_404, wd_15, ⟨by decide, by decide⟩, by decide +kernel, by decide⟩
def tb_X4_part : eTb := [(0, t_ldI 1 1 0), (1, t_call0 1 w_X4_isMarch 1), (4, t_if (fun a => a = 0) 16 4), (7, t_ldI 2 1 7), (8, t_if (fun a => a < 0) 16 8), (11, t_ldI 2 1 11), (12, t_push (.inl 4) 1 12), (13, t_ic (fun a b => a < b) 27 13), (16, t_throw "java/lang/IndexOutOfBoundsException"), (27, t_ldI 3 1 27), (28, t_if (fun a => a < 0) 36 28), (31, t_ldI 3 1 31), (32, t_push (.inl 4) 1 32), (33, t_ic (fun a b => a < b) 47 33), (36, t_throw "java/lang/IllegalArgumentException"), (47, t_ldO 0 1 47), (48, t_ldI 1 1 48), (49, t_ldI 2 1 49), (50, t_ldI 3 1 50), (51, t_call0 4 w_X4_partNumber 51), (54, t_jret)]
theorem st_X4_part : ∀ x ∈ tb_X4_part, e_Sd e_rf RX4 i_X4_part x.1 x.2 :=
  e_more (s_iload_n (k := 1) (by decide +kernel) rfl) (
  e_more (e_call0 (s_callS (idx := 194) k_X4_isMarch (by decide +kernel) cl_X4_isMarch wd_254 wd_255 (by decide))) (
  e_more (s_if_eq (off := 12) (by decide +kernel) (by decide)) (
  e_more (s_iload_n (k := 2) (by decide +kernel) rfl) (
  e_more (s_if_lt (off := 8) (by decide +kernel) (by decide)) (
  e_more (s_iload_n (k := 2) (by decide +kernel) rfl) (
  e_more (s_iconst (n := 4) (v := 4) (by decide +kernel) (by decide)) (
  e_more (s_ic_lt (off := 14) (by decide +kernel) (by decide)) (
  e_more (s_throw (text := "no such march or part") (ik := 90) (is := 266) (ic := 94) ⟨rfl, by decide⟩ ⟨by decide +kernel, wd_257, wd_28, by decide +kernel, xat_94, by decide +kernel, by decide +kernel, (Or.inr ⟨by decide +kernel, by decide +kernel, by decide +kernel⟩)⟩) (
  e_more (s_iload_n (k := 3) (by decide +kernel) rfl) (
  e_more (s_if_lt (off := 8) (by decide +kernel) (by decide)) (
  e_more (s_iload_n (k := 3) (by decide +kernel) rfl) (
  e_more (s_iconst (n := 4) (v := 4) (by decide +kernel) (by decide)) (
  e_more (s_ic_lt (off := 14) (by decide +kernel) (by decide)) (
  e_more (s_throw (text := "what is 0 to 3") (ik := 49) (is := 268) (ic := 53) ⟨rfl, by decide⟩ ⟨by decide +kernel, wd_406, wd_27, by decide +kernel, xat_53, by decide +kernel, by decide +kernel, (Or.inr ⟨by decide +kernel, by decide +kernel, by decide +kernel⟩)⟩) (
  e_more (s_aload_n (k := 0) (by decide +kernel) rfl) (
  e_more (s_iload_n (k := 1) (by decide +kernel) rfl) (
  e_more (s_iload_n (k := 2) (by decide +kernel) rfl) (
  e_more (s_iload_n (k := 3) (by decide +kernel) rfl) (
  e_more (e_call0 (s_callV (c := 4) (idx := 270) k_X4_partNumber (by decide +kernel) cl_X4_partNumber (by decide) rfl wd_422 wd_424 wd_6 (by decide) (e_sf_rec rfl))) (
  e_more (s_jret (by decide +kernel) rfl) (
  e_no_more)))))))))))))))))))))
def x_X4_part : eWX := e_sfx 0 (e_rnx tb_X4_part (iL i_X4_part) 1 6)
theorem kx_X4_part : e_OX e_rf i_X4_part 1 6 x_X4_part := kx_sf (kx_rn (own := RX4) ⟨by decide +kernel, rfl⟩ st_X4_part)
abbrev i_X4_countNumber : eI := (yX4_countNumber, cX4_countNumber, 2, (some .int), 3)
theorem cl_X4_countNumber : e_Cl i_X4_countNumber 1 := ⟨wd_754, wd_15, ⟨by decide, by decide⟩, by decide +kernel, by decide⟩
def tb_X4_countNumber : eTb := [(0, t_ldI 1 1 0), (1, t_sw [(15, 32), (16, 32), (17, 32), (18, 44)] 49), (32, t_ldO 0 1 32), (33, t_getR e_rf 4 0 33), (36, t_ldI 1 1 36), (37, t_push (.inl 15) 2 37), (39, t_ii (fun a b => a - b) 39), (40, t_call0 2 w_X0_settingAt 40), (43, t_jret), (44, t_ldO 0 1 44), (45, t_getI 4 4 45), (48, t_jret), (49, t_ldO 0 1 49), (50, t_getR e_rf 4 0 50), (53, t_ldI 1 1 53), (54, t_call0 2 w_X0_number 54), (57, t_jret)]
theorem st_X4_countNumber : ∀ x ∈ tb_X4_countNumber, e_Sd e_rf RX4 i_X4_countNumber x.1 x.2 :=
  e_more (s_iload_n (k := 1) (by decide +kernel) rfl) (
  e_more (s_table (dflt := 48) (lo := 15) (hi := 18) (offs := #[31, 31, 31, 43]) (len := 31) (l := [(15, 32), (16, 32), (17, 32), (18, 44)]) (by decide +kernel) (by decide +kernel) (by decide +kernel) (by decide)) (
  e_more (s_aload_n (k := 0) (by decide +kernel) rfl) (
  e_more (s_getR (c := 4) (j := 0) (idx := 10) (by decide +kernel) (by decide) (by decide) rfl wd_225) (
  e_more (s_iload_n (k := 1) (by decide +kernel) rfl) (
  e_more (s_bipush (n := 15) (v := 15) (by decide +kernel) (by decide)) (
  e_more (s_isub (by decide +kernel)) (
  e_more (e_call0 (s_callV (c := 0) (idx := 161) k_X0_settingAt (by decide +kernel) cl_X0_settingAt (by decide) rfl wd_383 wd_384 wd_385 (by decide) (e_sf_rec rfl))) (
  e_more (s_jret (by decide +kernel) rfl) (
  e_more (s_aload_n (k := 0) (by decide +kernel) rfl) (
  e_more (s_getI (c := 4) (j := 4) (idx := 27) (by decide +kernel) (by decide) (by decide) rfl wd_229) (
  e_more (s_jret (by decide +kernel) rfl) (
  e_more (s_aload_n (k := 0) (by decide +kernel) rfl) (
  e_more (s_getR (c := 4) (j := 0) (idx := 10) (by decide +kernel) (by decide) (by decide) rfl wd_225) (
  e_more (s_iload_n (k := 1) (by decide +kernel) rfl) (
  e_more (e_call0 (s_callV (c := 0) (idx := 422) k_X0_number (by decide +kernel) cl_X0_number (by decide) rfl wd_755 wd_756 wd_757 (by decide) (e_sf_rec rfl))) (
  e_more (s_jret (by decide +kernel) rfl) (
  e_no_more)))))))))))))))))
def w_X4_countNumber : eW := e_sf 0 (e_rn tb_X4_countNumber (iL i_X4_countNumber) 0 0)
theorem k_X4_countNumber : e_OK e_rf i_X4_countNumber 0 0 w_X4_countNumber := k_sf (k_rn (own := RX4) ⟨by decide +kernel, rfl⟩ st_X4_countNumber)
abbrev i_X4_count : eI := (yX4_count, cX4_count, 2, (some .int), 10)
theorem cl_X4_count : e_Cl i_X4_count 1 := ⟨wd_749, wd_15, ⟨by decide, by decide⟩, by decide +kernel, by decide⟩
def tb_X4_count : eTb := [(0, t_ldI 1 1 0), (1, t_if (fun a => a < 0) 10 1), (4, t_ldI 1 1 4), (5, t_push (.inl 19) 2 5), (7, t_ic (fun a b => a < b) 21 7), (10, t_throw "java/lang/IllegalArgumentException"), (21, t_ldO 0 1 21), (22, t_ldI 1 1 22), (23, t_call0 2 w_X4_countNumber 23), (26, t_jret)]
theorem st_X4_count : ∀ x ∈ tb_X4_count, e_Sd e_rf RX4 i_X4_count x.1 x.2 :=
  e_more (s_iload_n (k := 1) (by decide +kernel) rfl) (
  e_more (s_if_lt (off := 9) (by decide +kernel) (by decide)) (
  e_more (s_iload_n (k := 1) (by decide +kernel) rfl) (
  e_more (s_bipush (n := 19) (v := 19) (by decide +kernel) (by decide)) (
  e_more (s_ic_lt (off := 14) (by decide +kernel) (by decide)) (
  e_more (s_throw (text := "what is 0 to 18") (ik := 49) (is := 274) (ic := 53) ⟨rfl, by decide⟩ ⟨by decide +kernel, wd_406, wd_27, by decide +kernel, xat_53, by decide +kernel, by decide +kernel, (Or.inr ⟨by decide +kernel, by decide +kernel, by decide +kernel⟩)⟩) (
  e_more (s_aload_n (k := 0) (by decide +kernel) rfl) (
  e_more (s_iload_n (k := 1) (by decide +kernel) rfl) (
  e_more (e_call0 (s_callV (c := 4) (idx := 276) k_X4_countNumber (by decide +kernel) cl_X4_countNumber (by decide) rfl wd_751 wd_753 wd_9 (by decide) (e_sf_rec rfl))) (
  e_more (s_jret (by decide +kernel) rfl) (
  e_no_more))))))))))
def x_X4_count : eWX := e_sfx 0 (e_rnx tb_X4_count (iL i_X4_count) 1 6)
theorem kx_X4_count : e_OX e_rf i_X4_count 1 6 x_X4_count := kx_sf (kx_rn (own := RX4) ⟨by decide +kernel, rfl⟩ st_X4_count)
abbrev i_X4_noLoan : eI := (yX4_noLoan, cX4_noLoan, 5, (some .int), 10)
theorem cl_X4_noLoan : e_Cl i_X4_noLoan 2 := ⟨wd_851, wd_15, ⟨by decide, by decide⟩, by decide +kernel, by decide⟩
def tb_X4_noLoan : eTb := [(0, t_ldO 0 1 0), (1, t_getR e_rf 4 0 1), (4, t_ldI 1 1 4), (5, t_call0 2 w_X0_instrumentAt 5), (8, t_stO 3 1 8), (9, t_ldO 0 1 9), (10, t_getR e_rf 4 0 10), (13, t_ldI 2 1 13), (14, t_call0 2 w_X0_pupilAt 14), (17, t_stO 4 2 17), (19, t_ldO 3 1 19), (20, t_null 28 20), (23, t_ldO 4 2 23), (25, t_nonnull 38 25), (28, t_throw "java/lang/IndexOutOfBoundsException"), (38, t_ldO 0 1 38), (39, t_getR e_rf 4 0 39), (42, t_ldO 3 1 42), (43, t_ldO 4 2 43), (45, t_call0 3 w_X0_whyNoLoan 45), (48, t_jret)]
theorem st_X4_noLoan : ∀ x ∈ tb_X4_noLoan, e_Sd e_rf RX4 i_X4_noLoan x.1 x.2 :=
  e_more (s_aload_n (k := 0) (by decide +kernel) rfl) (
  e_more (s_getR (c := 4) (j := 0) (idx := 10) (by decide +kernel) (by decide) (by decide) rfl wd_225) (
  e_more (s_iload_n (k := 1) (by decide +kernel) rfl) (
  e_more (e_call0 (s_callV (c := 0) (idx := 82) k_X0_instrumentAt (by decide +kernel) cl_X0_instrumentAt (by decide) rfl wd_338 wd_339 wd_340 (by decide) (e_sf_rec rfl))) (
  e_more (s_astore_n (k := 3) (by decide +kernel) rfl (by decide)) (
  e_more (s_aload_n (k := 0) (by decide +kernel) rfl) (
  e_more (s_getR (c := 4) (j := 0) (idx := 10) (by decide +kernel) (by decide) (by decide) rfl wd_225) (
  e_more (s_iload_n (k := 2) (by decide +kernel) rfl) (
  e_more (e_call0 (s_callV (c := 0) (idx := 86) k_X0_pupilAt (by decide +kernel) cl_X0_pupilAt (by decide) rfl wd_330 wd_331 wd_332 (by decide) (e_sf_rec rfl))) (
  e_more (s_astore (by decide +kernel) (by decide)) (
  e_more (s_aload_n (k := 3) (by decide +kernel) rfl) (
  e_more (s_ifnull (off := 8) (by decide +kernel) (by decide)) (
  e_more (s_aload (by decide +kernel)) (
  e_more (s_ifnonnull (off := 13) (by decide +kernel) (by decide)) (
  e_more (s_throw (text := "no such instrument or pupil") (ik := 90) (is := 92) (ic := 94) ⟨rfl, by decide⟩ ⟨by decide +kernel, wd_257, wd_28, by decide +kernel, xat_94, by decide +kernel, by decide +kernel, (Or.inl ⟨by decide +kernel, by decide +kernel, by decide +kernel⟩)⟩) (
  e_more (s_aload_n (k := 0) (by decide +kernel) rfl) (
  e_more (s_getR (c := 4) (j := 0) (idx := 10) (by decide +kernel) (by decide) (by decide) rfl wd_225) (
  e_more (s_aload_n (k := 3) (by decide +kernel) rfl) (
  e_more (s_aload (by decide +kernel)) (
  e_more (e_call0 (s_callV (c := 0) (idx := 95) k_X0_whyNoLoan (by decide +kernel) cl_X0_whyNoLoan (by decide) rfl wd_853 wd_854 wd_855 (by decide) (e_sf_rec rfl))) (
  e_more (s_jret (by decide +kernel) rfl) (
  e_no_more)))))))))))))))))))))
def x_X4_noLoan : eWX := e_sfx 0 (e_rnx tb_X4_noLoan (iL i_X4_noLoan) 1 6)
theorem kx_X4_noLoan : e_OX e_rf i_X4_noLoan 1 6 x_X4_noLoan := kx_sf (kx_rn (own := RX4) ⟨by decide +kernel, rfl⟩ st_X4_noLoan)
abbrev i_X4_noLesson : eI := (yX4_noLesson, cX4_noLesson, 4, (some .int), 10)
theorem cl_X4_noLesson : e_Cl i_X4_noLesson 2 := ⟨wd_801, wd_15, ⟨by decide, by decide⟩, by decide +kernel, by decide⟩
def tb_X4_noLesson : eTb := [(0, t_ldO 0 1 0), (1, t_getR e_rf 4 0 1), (4, t_ldI 1 1 4), (5, t_call0 2 w_X0_pupilAt 5), (8, t_stO 3 1 8), (9, t_ldO 3 1 9), (10, t_null 20 10), (13, t_ldI 2 1 13), (14, t_call0 1 w_X4_isTeacher 14), (17, t_ifn (fun a => a = 0) 30 17), (20, t_throw "java/lang/IndexOutOfBoundsException"), (30, t_ldO 0 1 30), (31, t_getR e_rf 4 0 31), (34, t_ldO 3 1 34), (35, t_ldI 2 1 35), (36, t_call0 3 w_X0_whyNoLesson 36), (39, t_jret)]
theorem st_X4_noLesson : ∀ x ∈ tb_X4_noLesson, e_Sd e_rf RX4 i_X4_noLesson x.1 x.2 :=
  e_more (s_aload_n (k := 0) (by decide +kernel) rfl) (
  e_more (s_getR (c := 4) (j := 0) (idx := 10) (by decide +kernel) (by decide) (by decide) rfl wd_225) (
  e_more (s_iload_n (k := 1) (by decide +kernel) rfl) (
  e_more (e_call0 (s_callV (c := 0) (idx := 86) k_X0_pupilAt (by decide +kernel) cl_X0_pupilAt (by decide) rfl wd_330 wd_331 wd_332 (by decide) (e_sf_rec rfl))) (
  e_more (s_astore_n (k := 3) (by decide +kernel) rfl (by decide)) (
  e_more (s_aload_n (k := 3) (by decide +kernel) rfl) (
  e_more (s_ifnull (off := 10) (by decide +kernel) (by decide)) (
  e_more (s_iload_n (k := 2) (by decide +kernel) rfl) (
  e_more (e_call0 (s_callS (idx := 176) k_X4_isTeacher (by decide +kernel) cl_X4_isTeacher wd_802 wd_803 (by decide))) (
  e_more (s_if_ne (off := 13) (by decide +kernel) (by decide)) (
  e_more (s_throw (text := "no such pupil or teacher") (ik := 90) (is := 179) (ic := 94) ⟨rfl, by decide⟩ ⟨by decide +kernel, wd_257, wd_28, by decide +kernel, xat_94, by decide +kernel, by decide +kernel, (Or.inl ⟨by decide +kernel, by decide +kernel, by decide +kernel⟩)⟩) (
  e_more (s_aload_n (k := 0) (by decide +kernel) rfl) (
  e_more (s_getR (c := 4) (j := 0) (idx := 10) (by decide +kernel) (by decide) (by decide) rfl wd_225) (
  e_more (s_aload_n (k := 3) (by decide +kernel) rfl) (
  e_more (s_iload_n (k := 2) (by decide +kernel) rfl) (
  e_more (e_call0 (s_callV (c := 0) (idx := 181) k_X0_whyNoLesson (by decide +kernel) cl_X0_whyNoLesson (by decide) rfl wd_806 wd_807 wd_808 (by decide) (e_sf_rec rfl))) (
  e_more (s_jret (by decide +kernel) rfl) (
  e_no_more)))))))))))))))))
def x_X4_noLesson : eWX := e_sfx 0 (e_rnx tb_X4_noLesson (iL i_X4_noLesson) 1 6)
theorem kx_X4_noLesson : e_OX e_rf i_X4_noLesson 1 6 x_X4_noLesson := kx_sf (kx_rn (own := RX4) ⟨by decide +kernel, rfl⟩ st_X4_noLesson)
abbrev i_X4_shortOf : eI := (yX4_shortOf, cX4_shortOf, 2, (some .int), 10)
theorem cl_X4_shortOf : e_Cl i_X4_shortOf 1 := ⟨wd_822, wd_15, ⟨by decide, by decide⟩, by decide +kernel, by decide⟩
def tb_X4_shortOf : eTb := [(0, t_ldI 1 1 0), (1, t_call0 1 w_X4_isMarch 1), (4, t_ifn (fun a => a = 0) 17 4), (7, t_throw "java/lang/IndexOutOfBoundsException"), (17, t_ldO 0 1 17), (18, t_ldI 1 1 18), (19, t_call0 2 w_X4_fillLineUp 19), (22, t_jret)]
theorem st_X4_shortOf : ∀ x ∈ tb_X4_shortOf, e_Sd e_rf RX4 i_X4_shortOf x.1 x.2 :=
  e_more (s_iload_n (k := 1) (by decide +kernel) rfl) (
  e_more (e_call0 (s_callS (idx := 194) k_X4_isMarch (by decide +kernel) cl_X4_isMarch wd_254 wd_255 (by decide))) (
  e_more (s_if_ne (off := 13) (by decide +kernel) (by decide)) (
  e_more (s_throw (text := "no such march") (ik := 90) (is := 197) (ic := 94) ⟨rfl, by decide⟩ ⟨by decide +kernel, wd_257, wd_28, by decide +kernel, xat_94, by decide +kernel, by decide +kernel, (Or.inl ⟨by decide +kernel, by decide +kernel, by decide +kernel⟩)⟩) (
  e_more (s_aload_n (k := 0) (by decide +kernel) rfl) (
  e_more (s_iload_n (k := 1) (by decide +kernel) rfl) (
  e_more (e_call0 (s_callV (c := 4) (idx := 279) k_X4_fillLineUp (by decide +kernel) cl_X4_fillLineUp (by decide) rfl wd_371 wd_373 wd_3 (by decide) (e_sf_rec rfl))) (
  e_more (s_jret (by decide +kernel) rfl) (
  e_no_more))))))))
def x_X4_shortOf : eWX := e_sfx 0 (e_rnx tb_X4_shortOf (iL i_X4_shortOf) 1 6)
theorem kx_X4_shortOf : e_OX e_rf i_X4_shortOf 1 6 x_X4_shortOf := kx_sf (kx_rn (own := RX4) ⟨by decide +kernel, rfl⟩ st_X4_shortOf)
abbrev i_X4_withPart : eI := (yX4_withPart, cX4_withPart, 4, (some .int), 0)
theorem cl_X4_withPart : e_Cl i_X4_withPart 2 := ⟨wd_357, wd_15, ⟨by decide, by decide⟩, by decide +kernel, by decide⟩
def tb_X4_withPart : eTb := [(0, t_push (.inl 0) 1 0), (1, t_stI 2 1 1), (2, t_push (.inl 0) 1 2), (3, t_stI 3 1 3), (4, t_ldI 3 1 4), (5, t_push (.inl 16) 2 5), (7, t_ic (fun a b => b ≤ a) 34 7), (10, t_ldI 0 1 10), (11, t_ldI 3 1 11), (12, t_ii (fun a b => a >>> (b &&& 31)) 12), (13, t_push (.inl 1) 1 13), (14, t_ii (fun a b => a &&& b) 14), (15, t_if (fun a => a = 0) 28 15), (18, t_ldI 2 1 18), (19, t_push (.inl 1) 1 19), (20, t_ldI 3 1 20), (21, t_push (.inl 1) 1 21), (22, t_ldI 1 1 22), (23, t_ii (fun a b => a <<< (b &&& 31)) 23), (24, t_ii (fun a b => a ||| b) 24), (25, t_ii (fun a b => a <<< (b &&& 31)) 25), (26, t_ii (fun a b => a ||| b) 26), (27, t_stI 2 1 27), (28, t_iinc 3 1 28), (31, t_goto 4), (34, t_ldI 2 1 34), (35, t_jret)]
theorem st_X4_withPart : ∀ x ∈ tb_X4_withPart, e_Sd e_rf RX4 i_X4_withPart x.1 x.2 :=
  e_more (s_iconst (n := 0) (v := 0) (by decide +kernel) (by decide)) (
  e_more (s_istore_n (k := 2) (by decide +kernel) rfl (by decide)) (
  e_more (s_iconst (n := 0) (v := 0) (by decide +kernel) (by decide)) (
  e_more (s_istore_n (k := 3) (by decide +kernel) rfl (by decide)) (
  e_more (s_iload_n (k := 3) (by decide +kernel) rfl) (
  e_more (s_bipush (n := 16) (v := 16) (by decide +kernel) (by decide)) (
  e_more (s_ic_ge (off := 27) (by decide +kernel) (by decide)) (
  e_more (s_iload_n (k := 0) (by decide +kernel) rfl) (
  e_more (s_iload_n (k := 3) (by decide +kernel) rfl) (
  e_more (s_ishr (by decide +kernel)) (
  e_more (s_iconst (n := 1) (v := 1) (by decide +kernel) (by decide)) (
  e_more (s_iand (by decide +kernel)) (
  e_more (s_if_eq (off := 13) (by decide +kernel) (by decide)) (
  e_more (s_iload_n (k := 2) (by decide +kernel) rfl) (
  e_more (s_iconst (n := 1) (v := 1) (by decide +kernel) (by decide)) (
  e_more (s_iload_n (k := 3) (by decide +kernel) rfl) (
  e_more (s_iconst (n := 1) (v := 1) (by decide +kernel) (by decide)) (
  e_more (s_iload_n (k := 1) (by decide +kernel) rfl) (
  e_more (s_ishl (by decide +kernel)) (
  e_more (s_ior (by decide +kernel)) (
  e_more (s_ishl (by decide +kernel)) (
  e_more (s_ior (by decide +kernel)) (
  e_more (s_istore_n (k := 2) (by decide +kernel) rfl (by decide)) (
  e_more (s_iinc (z := 1) (n := 1) (by decide +kernel) (by decide) (by decide)) (
  e_more (s_goto (off := (-27)) (by decide +kernel) (by decide)) (
  e_more (s_iload_n (k := 2) (by decide +kernel) rfl) (
  e_more (s_jret (by decide +kernel) rfl) (
  e_no_more)))))))))))))))))))))))))))
def w_X4_withPart : eW := e_rn tb_X4_withPart (iL i_X4_withPart) 0 0
theorem k_X4_withPart : e_OK e_rf i_X4_withPart 0 0 w_X4_withPart := k_rn (own := RX4) ⟨by decide +kernel, rfl⟩ st_X4_withPart
abbrev i_X4_mostParts : eI := (yX4_mostParts, cX4_mostParts, 7, (some .int), 2)
theorem cl_X4_mostParts : e_Cl i_X4_mostParts 1 := ⟨wd_329, wd_15, ⟨by decide, by decide⟩, by decide +kernel, by decide⟩
def tb_X4_mostParts_0 : eTb := [(0, t_push (.inl 1) 1 0), (1, t_stI 2 1 1), (2, t_push (.inl 0) 1 2), (3, t_stI 3 1 3), (4, t_ldI 3 1 4), (5, t_ldO 0 1 5), (6, t_getR e_rf 4 0 6), (9, t_getI 0 1 9), (12, t_ic (fun a b => b ≤ a) 76 12), (15, t_ldO 0 1 15), (16, t_getR e_rf 4 0 16), (19, t_ldI 3 1 19), (20, t_call0 2 w_X0_pupilAt 20), (23, t_stO 4 2 23), (25, t_ldI 2 1 25), (26, t_stI 5 2 26), (28, t_push (.inl 0) 1 28), (29, t_stI 6 2 29), (31, t_ldO 4 2 31), (33, t_null 70 33), (36, t_ldI 6 2 36), (38, t_push (.inl 4) 1 38), (39, t_ic (fun a b => b ≤ a) 70 39), (42, t_ldO 0 1 42), (43, t_ldO 4 2 43), (45, t_ldI 1 1 45), (46, t_ldI 6 2 46), (48, t_call0 4 w_X4_couldPlay 48), (51, t_if (fun a => a = 0) 64 51), (54, t_ldI 2 1 54), (55, t_ldI 5 2 55), (57, t_ldI 6 2 57), (59, t_call0 2 w_X4_withPart 59), (62, t_ii (fun a b => a ||| b) 62), (63, t_stI 2 1 63), (64, t_iinc 6 1 64), (67, t_goto 31), (70, t_iinc 3 1 70), (73, t_goto 4), (76, t_push (.inl 0) 1 76)]
theorem st_X4_mostParts_0 : ∀ x ∈ tb_X4_mostParts_0, e_Sd e_rf RX4 i_X4_mostParts x.1 x.2 :=
  e_more (s_iconst (n := 1) (v := 1) (by decide +kernel) (by decide)) (
  e_more (s_istore_n (k := 2) (by decide +kernel) rfl (by decide)) (
  e_more (s_iconst (n := 0) (v := 0) (by decide +kernel) (by decide)) (
  e_more (s_istore_n (k := 3) (by decide +kernel) rfl (by decide)) (
  e_more (s_iload_n (k := 3) (by decide +kernel) rfl) (
  e_more (s_aload_n (k := 0) (by decide +kernel) rfl) (
  e_more (s_getR (c := 4) (j := 0) (idx := 10) (by decide +kernel) (by decide) (by decide) rfl wd_225) (
  e_more (s_getI (c := 0) (j := 1) (idx := 358) (by decide +kernel) (by decide) (by decide) rfl wd_124) (
  e_more (s_ic_ge (off := 64) (by decide +kernel) (by decide)) (
  e_more (s_aload_n (k := 0) (by decide +kernel) rfl) (
  e_more (s_getR (c := 4) (j := 0) (idx := 10) (by decide +kernel) (by decide) (by decide) rfl wd_225) (
  e_more (s_iload_n (k := 3) (by decide +kernel) rfl) (
  e_more (e_call0 (s_callV (c := 0) (idx := 86) k_X0_pupilAt (by decide +kernel) cl_X0_pupilAt (by decide) rfl wd_330 wd_331 wd_332 (by decide) (e_sf_rec rfl))) (
  e_more (s_astore (by decide +kernel) (by decide)) (
  e_more (s_iload_n (k := 2) (by decide +kernel) rfl) (
  e_more (s_istore (by decide +kernel) (by decide)) (
  e_more (s_iconst (n := 0) (v := 0) (by decide +kernel) (by decide)) (
  e_more (s_istore (by decide +kernel) (by decide)) (
  e_more (s_aload (by decide +kernel)) (
  e_more (s_ifnull (off := 37) (by decide +kernel) (by decide)) (
  e_more (s_iload (by decide +kernel)) (
  e_more (s_iconst (n := 4) (v := 4) (by decide +kernel) (by decide)) (
  e_more (s_ic_ge (off := 31) (by decide +kernel) (by decide)) (
  e_more (s_aload_n (k := 0) (by decide +kernel) rfl) (
  e_more (s_aload (by decide +kernel)) (
  e_more (s_iload_n (k := 1) (by decide +kernel) rfl) (
  e_more (s_iload (by decide +kernel)) (
  e_more (e_call0 (s_callV (c := 4) (idx := 361) k_X4_couldPlay (by decide +kernel) cl_X4_couldPlay (by decide) rfl wd_334 wd_336 wd_2 (by decide) (e_sf_rec rfl))) (
  e_more (s_if_eq (off := 13) (by decide +kernel) (by decide)) (
  e_more (s_iload_n (k := 2) (by decide +kernel) rfl) (
  e_more (s_iload (by decide +kernel)) (
  e_more (s_iload (by decide +kernel)) (
  e_more (e_call0 (s_callS (idx := 371) k_X4_withPart (by decide +kernel) cl_X4_withPart wd_355 wd_356 (by decide))) (
  e_more (s_ior (by decide +kernel)) (
  e_more (s_istore_n (k := 2) (by decide +kernel) rfl (by decide)) (
  e_more (s_iinc (z := 1) (n := 1) (by decide +kernel) (by decide) (by decide)) (
  e_more (s_goto (off := (-36)) (by decide +kernel) (by decide)) (
  e_more (s_iinc (z := 1) (n := 1) (by decide +kernel) (by decide) (by decide)) (
  e_more (s_goto (off := (-69)) (by decide +kernel) (by decide)) (
  e_more (s_iconst (n := 0) (v := 0) (by decide +kernel) (by decide)) (
  e_no_more))))))))))))))))))))))))))))))))))))))))
def tb_X4_mostParts_1 : eTb := [(77, t_stI 3 1 77), (78, t_push (.inl 0) 1 78), (79, t_stI 4 2 79), (81, t_ldI 4 2 81), (83, t_push (.inl 16) 2 83), (85, t_ic (fun a b => b ≤ a) 113 85), (88, t_ldI 2 1 88), (89, t_ldI 4 2 89), (91, t_ii (fun a b => a >>> (b &&& 31)) 91), (92, t_push (.inl 1) 1 92), (93, t_ii (fun a b => a &&& b) 93), (94, t_if (fun a => a = 0) 107 94), (97, t_ldI 3 1 97), (98, t_ldI 4 2 98), (100, t_call0 1 w_J6_bitCount_0f7a4 100), (103, fun _ _ K lc st S bc bs => e_pI st fun b r => e_pI r fun a r => cond (Nat.ble (e_sz r) 8) (K (103 + 3) lc (.inl (if a < b then b else a) :: r) S bc bs) False), (106, t_stI 3 1 106), (107, t_iinc 4 1 107), (110, t_goto 81), (113, t_ldI 3 1 113), (114, t_jret)]
theorem st_X4_mostParts_1 : ∀ x ∈ tb_X4_mostParts_1, e_Sd e_rf RX4 i_X4_mostParts x.1 x.2 :=
  e_more (s_istore_n (k := 3) (by decide +kernel) rfl (by decide)) (
  e_more (s_iconst (n := 0) (v := 0) (by decide +kernel) (by decide)) (
  e_more (s_istore (by decide +kernel) (by decide)) (
  e_more (s_iload (by decide +kernel)) (
  e_more (s_bipush (n := 16) (v := 16) (by decide +kernel) (by decide)) (
  e_more (s_ic_ge (off := 28) (by decide +kernel) (by decide)) (
  e_more (s_iload_n (k := 2) (by decide +kernel) rfl) (
  e_more (s_iload (by decide +kernel)) (
  e_more (s_ishr (by decide +kernel)) (
  e_more (s_iconst (n := 1) (v := 1) (by decide +kernel) (by decide)) (
  e_more (s_iand (by decide +kernel)) (
  e_more (s_if_eq (off := 13) (by decide +kernel) (by decide)) (
  e_more (s_iload_n (k := 3) (by decide +kernel) rfl) (
  e_more (s_iload (by decide +kernel)) (
  e_more (e_call0 (s_callS (idx := 374) k_J6_bitCount_0f7a4 (by decide +kernel) cl_J6_bitCount_0f7a4 wd_358 wd_359 (by decide))) (
  e_more (s_max (idx := 379) (by decide +kernel) wd_364 wd_365 wd_30 wd_366 (by decide)) (
  e_more (s_istore_n (k := 3) (by decide +kernel) rfl (by decide)) (
  e_more (s_iinc (z := 1) (n := 1) (by decide +kernel) (by decide) (by decide)) (
  e_more (s_goto (off := (-29)) (by decide +kernel) (by decide)) (
  e_more (s_iload_n (k := 3) (by decide +kernel) rfl) (
  e_more (s_jret (by decide +kernel) rfl) (
  e_no_more)))))))))))))))))))))
def tb_X4_mostParts : eTb := tb_X4_mostParts_0 ++ tb_X4_mostParts_1
theorem st_X4_mostParts : ∀ x ∈ tb_X4_mostParts, e_Sd e_rf RX4 i_X4_mostParts x.1 x.2 := e_app (st_X4_mostParts_0) st_X4_mostParts_1
def w_X4_mostParts : eW := e_sf 0 (e_rn tb_X4_mostParts (iL i_X4_mostParts) 0 0)
theorem k_X4_mostParts : e_OK e_rf i_X4_mostParts 0 0 w_X4_mostParts := k_sf (k_rn (own := RX4) ⟨by decide +kernel, rfl⟩ st_X4_mostParts)
abbrev i_X4_most : eI := (yX4_most, cX4_most, 2, (some .int), 10)
theorem cl_X4_most : e_Cl i_X4_most 1 := ⟨wd_253, wd_15, ⟨by decide, by decide⟩, by decide +kernel, by decide⟩
def tb_X4_most : eTb := [(0, t_ldI 1 1 0), (1, t_call0 1 w_X4_isMarch 1), (4, t_ifn (fun a => a = 0) 17 4), (7, t_throw "java/lang/IndexOutOfBoundsException"), (17, t_ldO 0 1 17), (18, t_ldI 1 1 18), (19, t_call0 2 w_X4_mostParts 19), (22, t_jret)]
theorem st_X4_most : ∀ x ∈ tb_X4_most, e_Sd e_rf RX4 i_X4_most x.1 x.2 :=
  e_more (s_iload_n (k := 1) (by decide +kernel) rfl) (
  e_more (e_call0 (s_callS (idx := 194) k_X4_isMarch (by decide +kernel) cl_X4_isMarch wd_254 wd_255 (by decide))) (
  e_more (s_if_ne (off := 13) (by decide +kernel) (by decide)) (
  e_more (s_throw (text := "no such march") (ik := 90) (is := 197) (ic := 94) ⟨rfl, by decide⟩ ⟨by decide +kernel, wd_257, wd_28, by decide +kernel, xat_94, by decide +kernel, by decide +kernel, (Or.inl ⟨by decide +kernel, by decide +kernel, by decide +kernel⟩)⟩) (
  e_more (s_aload_n (k := 0) (by decide +kernel) rfl) (
  e_more (s_iload_n (k := 1) (by decide +kernel) rfl) (
  e_more (e_call0 (s_callV (c := 4) (idx := 282) k_X4_mostParts (by decide +kernel) cl_X4_mostParts (by decide) rfl wd_326 wd_328 wd_1 (by decide) (e_sf_rec rfl))) (
  e_more (s_jret (by decide +kernel) rfl) (
  e_no_more))))))))
def x_X4_most : eWX := e_sfx 0 (e_rnx tb_X4_most (iL i_X4_most) 1 6)
theorem kx_X4_most : e_OX e_rf i_X4_most 1 6 x_X4_most := kx_sf (kx_rn (own := RX4) ⟨by decide +kernel, rfl⟩ st_X4_most)
abbrev i_X4_bestMarch : eI := (yX4_bestMarch, cX4_bestMarch, 5, (some .int), 4)
theorem cl_X4_bestMarch : e_Cl i_X4_bestMarch 0 := ⟨wd_370, wd_15, ⟨by decide, by decide⟩, by decide +kernel, by decide⟩
def tb_X4_bestMarch : eTb := [(0, t_push (.inl 0) 1 0), (1, t_stI 1 1 1), (2, t_ldO 0 1 2), (3, t_ldO 0 1 3), (4, t_push (.inl 0) 1 4), (5, t_call0 2 w_X4_fillLineUp 5), (8, t_call0 2 w_X4_penceFor 8), (11, t_stI 2 1 11), (12, t_push (.inl 1) 1 12), (13, t_stI 3 1 13), (14, t_ldI 3 1 14), (15, t_push (.inl 4) 1 15), (16, t_ic (fun a b => b ≤ a) 47 16), (19, t_ldO 0 1 19), (20, t_ldO 0 1 20), (21, t_ldI 3 1 21), (22, t_call0 2 w_X4_fillLineUp 22), (25, t_call0 2 w_X4_penceFor 25), (28, t_stI 4 2 28), (30, t_ldI 4 2 30), (32, t_ldI 2 1 32), (33, t_ic (fun a b => a ≤ b) 41 33), (36, t_ldI 3 1 36), (37, t_stI 1 1 37), (38, t_ldI 4 2 38), (40, t_stI 2 1 40), (41, t_iinc 3 1 41), (44, t_goto 14), (47, t_ldI 1 1 47), (48, t_jret)]
theorem st_X4_bestMarch : ∀ x ∈ tb_X4_bestMarch, e_Sd e_rf RX4 i_X4_bestMarch x.1 x.2 :=
  e_more (s_iconst (n := 0) (v := 0) (by decide +kernel) (by decide)) (
  e_more (s_istore_n (k := 1) (by decide +kernel) rfl (by decide)) (
  e_more (s_aload_n (k := 0) (by decide +kernel) rfl) (
  e_more (s_aload_n (k := 0) (by decide +kernel) rfl) (
  e_more (s_iconst (n := 0) (v := 0) (by decide +kernel) (by decide)) (
  e_more (e_call0 (s_callV (c := 4) (idx := 279) k_X4_fillLineUp (by decide +kernel) cl_X4_fillLineUp (by decide) rfl wd_371 wd_373 wd_3 (by decide) (e_sf_rec rfl))) (
  e_more (e_call0 (s_callV (c := 4) (idx := 285) k_X4_penceFor (by decide +kernel) cl_X4_penceFor (by decide) rfl wd_379 wd_381 wd_5 (by decide) (e_sf_rec rfl))) (
  e_more (s_istore_n (k := 2) (by decide +kernel) rfl (by decide)) (
  e_more (s_iconst (n := 1) (v := 1) (by decide +kernel) (by decide)) (
  e_more (s_istore_n (k := 3) (by decide +kernel) rfl (by decide)) (
  e_more (s_iload_n (k := 3) (by decide +kernel) rfl) (
  e_more (s_iconst (n := 4) (v := 4) (by decide +kernel) (by decide)) (
  e_more (s_ic_ge (off := 31) (by decide +kernel) (by decide)) (
  e_more (s_aload_n (k := 0) (by decide +kernel) rfl) (
  e_more (s_aload_n (k := 0) (by decide +kernel) rfl) (
  e_more (s_iload_n (k := 3) (by decide +kernel) rfl) (
  e_more (e_call0 (s_callV (c := 4) (idx := 279) k_X4_fillLineUp (by decide +kernel) cl_X4_fillLineUp (by decide) rfl wd_371 wd_373 wd_3 (by decide) (e_sf_rec rfl))) (
  e_more (e_call0 (s_callV (c := 4) (idx := 285) k_X4_penceFor (by decide +kernel) cl_X4_penceFor (by decide) rfl wd_379 wd_381 wd_5 (by decide) (e_sf_rec rfl))) (
  e_more (s_istore (by decide +kernel) (by decide)) (
  e_more (s_iload (by decide +kernel)) (
  e_more (s_iload_n (k := 2) (by decide +kernel) rfl) (
  e_more (s_ic_le (off := 8) (by decide +kernel) (by decide)) (
  e_more (s_iload_n (k := 3) (by decide +kernel) rfl) (
  e_more (s_istore_n (k := 1) (by decide +kernel) rfl (by decide)) (
  e_more (s_iload (by decide +kernel)) (
  e_more (s_istore_n (k := 2) (by decide +kernel) rfl (by decide)) (
  e_more (s_iinc (z := 1) (n := 1) (by decide +kernel) (by decide) (by decide)) (
  e_more (s_goto (off := (-30)) (by decide +kernel) (by decide)) (
  e_more (s_iload_n (k := 1) (by decide +kernel) rfl) (
  e_more (s_jret (by decide +kernel) rfl) (
  e_no_more))))))))))))))))))))))))))))))
def w_X4_bestMarch : eW := e_sf 0 (e_rn tb_X4_bestMarch (iL i_X4_bestMarch) 0 0)
theorem k_X4_bestMarch : e_OK e_rf i_X4_bestMarch 0 0 w_X4_bestMarch := k_sf (k_rn (own := RX4) ⟨by decide +kernel, rfl⟩ st_X4_bestMarch)
abbrev i_X4_helper : eI := (yX4_helper, cX4_helper, 8, (some .int), 4)
theorem cl_X4_helper : e_Cl i_X4_helper 2 := ⟨wd_834, wd_15, ⟨by decide, by decide⟩, by decide +kernel, by decide⟩
def tb_X4_helper_0 : eTb := [(0, t_ldO 0 1 0), (1, t_ldI 1 1 1), (2, t_call0 2 w_X4_fillLineUp 2), (5, t_stI 3 1 5), (6, t_push (.inl 0) 1 6), (7, t_stI 4 2 7), (9, t_ldI 4 2 9), (11, t_ldO 0 1 11), (12, t_getR e_rf 4 0 12), (15, t_getI 0 1 15), (18, t_ic (fun a b => b ≤ a) 100 18), (21, t_ldO 0 1 21), (22, t_getR e_rf 4 0 22), (25, t_ldI 4 2 25), (27, t_call0 2 w_X0_pupilAt 27), (30, t_stO 5 2 30), (32, t_ldO 5 2 32), (34, t_null 94 34), (37, t_ldO 0 1 37), (38, t_getR e_rf 4 0 38), (41, t_ldO 5 2 41), (43, t_ldI 2 1 43), (44, t_call0 3 w_X0_whyNoLesson 44), (47, t_ifn (fun a => a = 0) 94 47), (50, t_ldO 0 1 50), (51, t_getR e_rf 4 0 51), (54, t_ldO 5 2 54), (56, t_call0 2 w_X0_breathOfLesson 56), (59, t_stI 6 2 59), (61, t_ldO 5 2 61), (63, t_push (.inl 1) 1 63), (64, t_ldI 6 2 64), (66, t_call0 3 w_X2_learn 66), (69, t_ldO 0 1 69), (70, t_ldI 1 1 70), (71, t_call0 2 w_X4_fillLineUp 71), (74, t_stI 7 2 74), (76, t_ldO 5 2 76), (78, t_push (.inl (-1)) 1 78), (79, t_ldI 6 2 79)]
theorem st_X4_helper_0 : ∀ x ∈ tb_X4_helper_0, e_Sd e_rf RX4 i_X4_helper x.1 x.2 :=
  e_more (s_aload_n (k := 0) (by decide +kernel) rfl) (
  e_more (s_iload_n (k := 1) (by decide +kernel) rfl) (
  e_more (e_call0 (s_callV (c := 4) (idx := 279) k_X4_fillLineUp (by decide +kernel) cl_X4_fillLineUp (by decide) rfl wd_371 wd_373 wd_3 (by decide) (e_sf_rec rfl))) (
  e_more (s_istore_n (k := 3) (by decide +kernel) rfl (by decide)) (
  e_more (s_iconst (n := 0) (v := 0) (by decide +kernel) (by decide)) (
  e_more (s_istore (by decide +kernel) (by decide)) (
  e_more (s_iload (by decide +kernel)) (
  e_more (s_aload_n (k := 0) (by decide +kernel) rfl) (
  e_more (s_getR (c := 4) (j := 0) (idx := 10) (by decide +kernel) (by decide) (by decide) rfl wd_225) (
  e_more (s_getI (c := 0) (j := 1) (idx := 358) (by decide +kernel) (by decide) (by decide) rfl wd_124) (
  e_more (s_ic_ge (off := 82) (by decide +kernel) (by decide)) (
  e_more (s_aload_n (k := 0) (by decide +kernel) rfl) (
  e_more (s_getR (c := 4) (j := 0) (idx := 10) (by decide +kernel) (by decide) (by decide) rfl wd_225) (
  e_more (s_iload (by decide +kernel)) (
  e_more (e_call0 (s_callV (c := 0) (idx := 86) k_X0_pupilAt (by decide +kernel) cl_X0_pupilAt (by decide) rfl wd_330 wd_331 wd_332 (by decide) (e_sf_rec rfl))) (
  e_more (s_astore (by decide +kernel) (by decide)) (
  e_more (s_aload (by decide +kernel)) (
  e_more (s_ifnull (off := 60) (by decide +kernel) (by decide)) (
  e_more (s_aload_n (k := 0) (by decide +kernel) rfl) (
  e_more (s_getR (c := 4) (j := 0) (idx := 10) (by decide +kernel) (by decide) (by decide) rfl wd_225) (
  e_more (s_aload (by decide +kernel)) (
  e_more (s_iload_n (k := 2) (by decide +kernel) rfl) (
  e_more (e_call0 (s_callV (c := 0) (idx := 181) k_X0_whyNoLesson (by decide +kernel) cl_X0_whyNoLesson (by decide) rfl wd_806 wd_807 wd_808 (by decide) (e_sf_rec rfl))) (
  e_more (s_if_ne (off := 47) (by decide +kernel) (by decide)) (
  e_more (s_aload_n (k := 0) (by decide +kernel) rfl) (
  e_more (s_getR (c := 4) (j := 0) (idx := 10) (by decide +kernel) (by decide) (by decide) rfl wd_225) (
  e_more (s_aload (by decide +kernel)) (
  e_more (e_call0 (s_callV (c := 0) (idx := 384) k_X0_breathOfLesson (by decide +kernel) cl_X0_breathOfLesson (by decide) rfl wd_835 wd_816 wd_817 (by decide) (e_sf_rec rfl))) (
  e_more (s_istore (by decide +kernel) (by decide)) (
  e_more (s_aload (by decide +kernel)) (
  e_more (s_iconst (n := 1) (v := 1) (by decide +kernel) (by decide)) (
  e_more (s_iload (by decide +kernel)) (
  e_more (e_call0 (s_callV (c := 2) (idx := 388) k_X2_learn (by decide +kernel) cl_X2_learn (by decide) rfl wd_836 wd_837 wd_838 (by decide) (e_sf_rec rfl))) (
  e_more (s_aload_n (k := 0) (by decide +kernel) rfl) (
  e_more (s_iload_n (k := 1) (by decide +kernel) rfl) (
  e_more (e_call0 (s_callV (c := 4) (idx := 279) k_X4_fillLineUp (by decide +kernel) cl_X4_fillLineUp (by decide) rfl wd_371 wd_373 wd_3 (by decide) (e_sf_rec rfl))) (
  e_more (s_istore (by decide +kernel) (by decide)) (
  e_more (s_aload (by decide +kernel)) (
  e_more (s_iconst (n := (-1)) (v := (-1)) (by decide +kernel) (by decide)) (
  e_more (s_iload (by decide +kernel)) (
  e_no_more))))))))))))))))))))))))))))))))))))))))
def tb_X4_helper_1 : eTb := [(81, t_i1 (fun a => .inl (-a)) 81), (82, t_call0 3 w_X2_learn 82), (85, t_ldI 7 2 85), (87, t_ldI 3 1 87), (88, t_ic (fun a b => b ≤ a) 94 88), (91, t_ldI 4 2 91), (93, t_jret), (94, t_iinc 4 1 94), (97, t_goto 9), (100, t_push (.inl (-1)) 1 100), (101, t_jret)]
theorem st_X4_helper_1 : ∀ x ∈ tb_X4_helper_1, e_Sd e_rf RX4 i_X4_helper x.1 x.2 :=
  e_more (s_ineg (by decide +kernel)) (
  e_more (e_call0 (s_callV (c := 2) (idx := 388) k_X2_learn (by decide +kernel) cl_X2_learn (by decide) rfl wd_836 wd_837 wd_838 (by decide) (e_sf_rec rfl))) (
  e_more (s_iload (by decide +kernel)) (
  e_more (s_iload_n (k := 3) (by decide +kernel) rfl) (
  e_more (s_ic_ge (off := 6) (by decide +kernel) (by decide)) (
  e_more (s_iload (by decide +kernel)) (
  e_more (s_jret (by decide +kernel) rfl) (
  e_more (s_iinc (z := 1) (n := 1) (by decide +kernel) (by decide) (by decide)) (
  e_more (s_goto (off := (-88)) (by decide +kernel) (by decide)) (
  e_more (s_iconst (n := (-1)) (v := (-1)) (by decide +kernel) (by decide)) (
  e_more (s_jret (by decide +kernel) rfl) (
  e_no_more)))))))))))
def tb_X4_helper : eTb := tb_X4_helper_0 ++ tb_X4_helper_1
theorem st_X4_helper : ∀ x ∈ tb_X4_helper, e_Sd e_rf RX4 i_X4_helper x.1 x.2 := e_app (st_X4_helper_0) st_X4_helper_1
def w_X4_helper : eW := e_sf 0 (e_rn tb_X4_helper (iL i_X4_helper) 0 0)
theorem k_X4_helper : e_OK e_rf i_X4_helper 0 0 w_X4_helper := k_sf (k_rn (own := RX4) ⟨by decide +kernel, rfl⟩ st_X4_helper)
abbrev i_X4_helps : eI := (yX4_helps, cX4_helps, 3, (some .int), 10)
theorem cl_X4_helps : e_Cl i_X4_helps 2 := ⟨wd_829, wd_15, ⟨by decide, by decide⟩, by decide +kernel, by decide⟩
def tb_X4_helps : eTb := [(0, t_ldI 1 1 0), (1, t_call0 1 w_X4_isMarch 1), (4, t_if (fun a => a = 0) 14 4), (7, t_ldI 2 1 7), (8, t_call0 1 w_X4_isTeacher 8), (11, t_ifn (fun a => a = 0) 25 11), (14, t_throw "java/lang/IndexOutOfBoundsException"), (25, t_ldO 0 1 25), (26, t_ldI 1 1 26), (27, t_ldI 2 1 27), (28, t_call0 3 w_X4_helper 28), (31, t_jret)]
theorem st_X4_helps : ∀ x ∈ tb_X4_helps, e_Sd e_rf RX4 i_X4_helps x.1 x.2 :=
  e_more (s_iload_n (k := 1) (by decide +kernel) rfl) (
  e_more (e_call0 (s_callS (idx := 194) k_X4_isMarch (by decide +kernel) cl_X4_isMarch wd_254 wd_255 (by decide))) (
  e_more (s_if_eq (off := 10) (by decide +kernel) (by decide)) (
  e_more (s_iload_n (k := 2) (by decide +kernel) rfl) (
  e_more (e_call0 (s_callS (idx := 176) k_X4_isTeacher (by decide +kernel) cl_X4_isTeacher wd_802 wd_803 (by decide))) (
  e_more (s_if_ne (off := 14) (by decide +kernel) (by decide)) (
  e_more (s_throw (text := "no such march or teacher") (ik := 90) (is := 288) (ic := 94) ⟨rfl, by decide⟩ ⟨by decide +kernel, wd_257, wd_28, by decide +kernel, xat_94, by decide +kernel, by decide +kernel, (Or.inr ⟨by decide +kernel, by decide +kernel, by decide +kernel⟩)⟩) (
  e_more (s_aload_n (k := 0) (by decide +kernel) rfl) (
  e_more (s_iload_n (k := 1) (by decide +kernel) rfl) (
  e_more (s_iload_n (k := 2) (by decide +kernel) rfl) (
  e_more (e_call0 (s_callV (c := 4) (idx := 290) k_X4_helper (by decide +kernel) cl_X4_helper (by decide) rfl wd_831 wd_833 wd_10 (by decide) (e_sf_rec rfl))) (
  e_more (s_jret (by decide +kernel) rfl) (
  e_no_more))))))))))))
def x_X4_helps : eWX := e_sfx 0 (e_rnx tb_X4_helps (iL i_X4_helps) 1 6)
theorem kx_X4_helps : e_OX e_rf i_X4_helps 1 6 x_X4_helps := kx_sf (kx_rn (own := RX4) ⟨by decide +kernel, rfl⟩ st_X4_helps)
abbrev i_X4_played : eI := (yX4_played, cX4_played, 2, (some .double), 0)
theorem cl_X4_played : e_Cl i_X4_played 0 := ⟨wd_844, wd_15, ⟨by decide, by decide⟩, by decide +kernel, by decide⟩
def tb_X4_played : eTb := [(0, t_ldO 0 1 0), (1, t_getR e_rf 4 0 1), (4, t_getI 0 10 4), (7, t_push (.inl 4) 1 7), (8, t_ii (fun a b => a * b) 8), (9, t_stI 1 1 9), (10, t_ldI 1 1 10), (11, t_if (fun a => 0 < a) 16 11), (14, t_push (.inr (.inr (.inl 4607182418800017408))) 1 14), (15, t_dret), (16, t_ldI 1 1 16), (17, t_ldO 0 1 17), (18, t_getR e_rf 4 0 18), (21, t_getI 0 11 21), (24, t_ii (fun a b => a - b) 24), (25, t_i1 (fun a => .inr (.inr (.inl (FP.i2d a)))) 25), (26, t_ldI 1 1 26), (27, t_i1 (fun a => .inr (.inr (.inl (FP.i2d a)))) 27), (28, t_dd FP.ddiv 28), (29, t_dret)]
theorem st_X4_played : ∀ x ∈ tb_X4_played, e_Sd e_rf RX4 i_X4_played x.1 x.2 :=
  e_more (s_aload_n (k := 0) (by decide +kernel) rfl) (
  e_more (s_getR (c := 4) (j := 0) (idx := 10) (by decide +kernel) (by decide) (by decide) rfl wd_225) (
  e_more (s_getI (c := 0) (j := 10) (idx := 294) (by decide +kernel) (by decide) (by decide) rfl wd_136) (
  e_more (s_iconst (n := 4) (v := 4) (by decide +kernel) (by decide)) (
  e_more (s_imul (by decide +kernel)) (
  e_more (s_istore_n (k := 1) (by decide +kernel) rfl (by decide)) (
  e_more (s_iload_n (k := 1) (by decide +kernel) rfl) (
  e_more (s_if_gt (off := 5) (by decide +kernel) (by decide)) (
  e_more (s_dconst1 (by decide +kernel)) (
  e_more (s_dret (by decide +kernel) rfl) (
  e_more (s_iload_n (k := 1) (by decide +kernel) rfl) (
  e_more (s_aload_n (k := 0) (by decide +kernel) rfl) (
  e_more (s_getR (c := 4) (j := 0) (idx := 10) (by decide +kernel) (by decide) (by decide) rfl wd_225) (
  e_more (s_getI (c := 0) (j := 11) (idx := 297) (by decide +kernel) (by decide) (by decide) rfl wd_138) (
  e_more (s_isub (by decide +kernel)) (
  e_more (s_i2d (by decide +kernel)) (
  e_more (s_iload_n (k := 1) (by decide +kernel) rfl) (
  e_more (s_i2d (by decide +kernel)) (
  e_more (s_ddiv (by decide +kernel)) (
  e_more (s_dret (by decide +kernel) rfl) (
  e_no_more))))))))))))))))))))
def w_X4_played : eW := e_sf 0 (e_rn tb_X4_played (iL i_X4_played) 0 0)
theorem k_X4_played : e_OK e_rf i_X4_played 0 0 w_X4_played := k_sf (k_rn (own := RX4) ⟨by decide +kernel, rfl⟩ st_X4_played)
