/-! Instrument, Pupil: tables and readings, by program. Own work. -/
abbrev i_X2_copyFrom : eI := (yX2_copyFrom, cX2_copyFrom, 2, none, 0)
theorem cl_X2_copyFrom : e_Cl i_X2_copyFrom 1 := ⟨wd_911, wd_17, ⟨by decide, by decide⟩, by decide +kernel, by decide⟩
def tb_X2_copyFrom : eTb := [(0, t_ldO 0 1 0), (1, t_ldO 1 1 1), (2, t_getI 2 0 2), (5, t_putI 2 0 5), (8, t_ldO 0 1 8), (9, t_ldO 1 1 9), (10, t_getI 2 1 10), (13, t_putI 2 1 13), (16, t_ldO 0 1 16), (17, t_ldO 1 1 17), (18, t_getI 2 2 18), (21, t_putI 2 2 21), (24, t_ldO 0 1 24), (25, t_ldO 1 1 25), (26, t_getI 2 3 26), (29, t_putI 2 3 29), (32, t_ldO 0 1 32), (33, t_ldO 1 1 33), (34, t_getI 2 4 34), (37, t_putI 2 4 37), (40, t_ldO 0 1 40), (41, t_ldO 1 1 41), (42, t_getI 2 5 42), (45, t_putN .boolean 2 5 45), (48, t_ldO 0 1 48), (49, t_ldO 1 1 49), (50, t_getI 2 6 50), (53, t_putI 2 6 53), (56, t_ret)]
theorem st_X2_copyFrom : ∀ x ∈ tb_X2_copyFrom, e_Sd e_rf RX2 i_X2_copyFrom x.1 x.2 :=
  e_more (s_aload_n (k := 0) (by decide +kernel) rfl) (
  e_more (s_aload_n (k := 1) (by decide +kernel) rfl) (
  e_more (s_getI (c := 2) (j := 0) (idx := 9) (by decide +kernel) (by decide) (by decide) rfl wd_62) (
  e_more (s_putI (c := 2) (j := 0) (idx := 9) (by decide +kernel) (by decide) (by decide) rfl rfl wd_62) (
  e_more (s_aload_n (k := 0) (by decide +kernel) rfl) (
  e_more (s_aload_n (k := 1) (by decide +kernel) rfl) (
  e_more (s_getI (c := 2) (j := 1) (idx := 15) (by decide +kernel) (by decide) (by decide) rfl wd_64) (
  e_more (s_putI (c := 2) (j := 1) (idx := 15) (by decide +kernel) (by decide) (by decide) rfl rfl wd_64) (
  e_more (s_aload_n (k := 0) (by decide +kernel) rfl) (
  e_more (s_aload_n (k := 1) (by decide +kernel) rfl) (
  e_more (s_getI (c := 2) (j := 2) (idx := 18) (by decide +kernel) (by decide) (by decide) rfl wd_67) (
  e_more (s_putI (c := 2) (j := 2) (idx := 18) (by decide +kernel) (by decide) (by decide) rfl rfl wd_67) (
  e_more (s_aload_n (k := 0) (by decide +kernel) rfl) (
  e_more (s_aload_n (k := 1) (by decide +kernel) rfl) (
  e_more (s_getI (c := 2) (j := 3) (idx := 21) (by decide +kernel) (by decide) (by decide) rfl wd_70) (
  e_more (s_putI (c := 2) (j := 3) (idx := 21) (by decide +kernel) (by decide) (by decide) rfl rfl wd_70) (
  e_more (s_aload_n (k := 0) (by decide +kernel) rfl) (
  e_more (s_aload_n (k := 1) (by decide +kernel) rfl) (
  e_more (s_getI (c := 2) (j := 4) (idx := 24) (by decide +kernel) (by decide) (by decide) rfl wd_72) (
  e_more (s_putI (c := 2) (j := 4) (idx := 24) (by decide +kernel) (by decide) (by decide) rfl rfl wd_72) (
  e_more (s_aload_n (k := 0) (by decide +kernel) rfl) (
  e_more (s_aload_n (k := 1) (by decide +kernel) rfl) (
  e_more (s_getI (c := 2) (j := 5) (idx := 27) (by decide +kernel) (by decide) (by decide) rfl wd_75) (
  e_more (s_putN (c := 2) (j := 5) (idx := 27) (by decide +kernel) (by decide) (by decide) rfl rfl rfl wd_75) (
  e_more (s_aload_n (k := 0) (by decide +kernel) rfl) (
  e_more (s_aload_n (k := 1) (by decide +kernel) rfl) (
  e_more (s_getI (c := 2) (j := 6) (idx := 31) (by decide +kernel) (by decide) (by decide) rfl wd_77) (
  e_more (s_putI (c := 2) (j := 6) (idx := 31) (by decide +kernel) (by decide) (by decide) rfl rfl wd_77) (
  e_more (s_ret (by decide +kernel) rfl) (
  e_no_more)))))))))))))))))))))))))))))
def w_X2_copyFrom : eW := e_sf 2 (e_rn tb_X2_copyFrom (iL i_X2_copyFrom) 0 0)
theorem k_X2_copyFrom : e_OK e_rf i_X2_copyFrom 0 0 w_X2_copyFrom := k_sf (k_rn (own := RX2) ⟨by decide +kernel, rfl⟩ st_X2_copyFrom)
abbrev i_X1_copyFrom : eI := (yX1_copyFrom, cX1_copyFrom, 2, none, 0)
theorem cl_X1_copyFrom : e_Cl i_X1_copyFrom 1 := ⟨wd_915, wd_18, ⟨by decide, by decide⟩, by decide +kernel, by decide⟩
def tb_X1_copyFrom : eTb := [(0, t_ldO 0 1 0), (1, t_ldO 1 1 1), (2, t_getI 1 0 2), (5, t_putI 1 0 5), (8, t_ldO 0 1 8), (9, t_ldO 1 1 9), (10, t_getI 1 1 10), (13, t_putI 1 1 13), (16, t_ldO 0 1 16), (17, t_ldO 1 1 17), (18, t_getI 1 2 18), (21, t_putI 1 2 21), (24, t_ldO 0 1 24), (25, t_ldO 1 1 25), (26, t_getI 1 3 26), (29, t_putI 1 3 29), (32, t_ldO 0 1 32), (33, t_ldO 1 1 33), (34, t_getI 1 4 34), (37, t_putI 1 4 37), (40, t_ret)]
theorem st_X1_copyFrom : ∀ x ∈ tb_X1_copyFrom, e_Sd e_rf RX1 i_X1_copyFrom x.1 x.2 :=
  e_more (s_aload_n (k := 0) (by decide +kernel) rfl) (
  e_more (s_aload_n (k := 1) (by decide +kernel) rfl) (
  e_more (s_getI (c := 1) (j := 0) (idx := 9) (by decide +kernel) (by decide) (by decide) rfl wd_100) (
  e_more (s_putI (c := 1) (j := 0) (idx := 9) (by decide +kernel) (by decide) (by decide) rfl rfl wd_100) (
  e_more (s_aload_n (k := 0) (by decide +kernel) rfl) (
  e_more (s_aload_n (k := 1) (by decide +kernel) rfl) (
  e_more (s_getI (c := 1) (j := 1) (idx := 15) (by decide +kernel) (by decide) (by decide) rfl wd_103) (
  e_more (s_putI (c := 1) (j := 1) (idx := 15) (by decide +kernel) (by decide) (by decide) rfl rfl wd_103) (
  e_more (s_aload_n (k := 0) (by decide +kernel) rfl) (
  e_more (s_aload_n (k := 1) (by decide +kernel) rfl) (
  e_more (s_getI (c := 1) (j := 2) (idx := 18) (by decide +kernel) (by decide) (by decide) rfl wd_106) (
  e_more (s_putI (c := 1) (j := 2) (idx := 18) (by decide +kernel) (by decide) (by decide) rfl rfl wd_106) (
  e_more (s_aload_n (k := 0) (by decide +kernel) rfl) (
  e_more (s_aload_n (k := 1) (by decide +kernel) rfl) (
  e_more (s_getI (c := 1) (j := 3) (idx := 21) (by decide +kernel) (by decide) (by decide) rfl wd_108) (
  e_more (s_putI (c := 1) (j := 3) (idx := 21) (by decide +kernel) (by decide) (by decide) rfl rfl wd_108) (
  e_more (s_aload_n (k := 0) (by decide +kernel) rfl) (
  e_more (s_aload_n (k := 1) (by decide +kernel) rfl) (
  e_more (s_getI (c := 1) (j := 4) (idx := 24) (by decide +kernel) (by decide) (by decide) rfl wd_110) (
  e_more (s_putI (c := 1) (j := 4) (idx := 24) (by decide +kernel) (by decide) (by decide) rfl rfl wd_110) (
  e_more (s_ret (by decide +kernel) rfl) (
  e_no_more)))))))))))))))))))))
def w_X1_copyFrom : eW := e_sf 3 (e_rn tb_X1_copyFrom (iL i_X1_copyFrom) 0 0)
theorem k_X1_copyFrom : e_OK e_rf i_X1_copyFrom 0 0 w_X1_copyFrom := k_sf (k_rn (own := RX1) ⟨by decide +kernel, rfl⟩ st_X1_copyFrom)
abbrev i_X2_come : eI := (yX2_come, cX2_come, 2, none, 0)
theorem cl_X2_come : e_Cl i_X2_come 1 := ⟨wd_924, wd_17, ⟨by decide, by decide⟩, by decide +kernel, by decide⟩
def tb_X2_come : eTb := [(0, t_ldO 0 1 0), (1, t_ldI 1 1 1), (2, t_putI 2 0 2), (5, t_ldO 0 1 5), (6, t_ldI 1 1 6), (7, t_putI 2 1 7), (10, t_ldO 0 1 10), (11, t_push (.inl 1) 1 11), (12, t_putI 2 2 12), (15, t_ldO 0 1 15), (16, t_push (.inl 0) 1 16), (17, t_putI 2 3 17), (20, t_ldO 0 1 20), (21, t_push (.inl (-1)) 1 21), (22, t_putI 2 4 22), (25, t_ldO 0 1 25), (26, t_push (.inl 0) 1 26), (27, t_putN .boolean 2 5 27), (30, t_ldO 0 1 30), (31, t_push (.inl 0) 1 31), (32, t_putI 2 6 32), (35, t_ret)]
theorem st_X2_come : ∀ x ∈ tb_X2_come, e_Sd e_rf RX2 i_X2_come x.1 x.2 :=
  e_more (s_aload_n (k := 0) (by decide +kernel) rfl) (
  e_more (s_iload_n (k := 1) (by decide +kernel) rfl) (
  e_more (s_putI (c := 2) (j := 0) (idx := 9) (by decide +kernel) (by decide) (by decide) rfl rfl wd_62) (
  e_more (s_aload_n (k := 0) (by decide +kernel) rfl) (
  e_more (s_iload_n (k := 1) (by decide +kernel) rfl) (
  e_more (s_putI (c := 2) (j := 1) (idx := 15) (by decide +kernel) (by decide) (by decide) rfl rfl wd_64) (
  e_more (s_aload_n (k := 0) (by decide +kernel) rfl) (
  e_more (s_iconst (n := 1) (v := 1) (by decide +kernel) (by decide)) (
  e_more (s_putI (c := 2) (j := 2) (idx := 18) (by decide +kernel) (by decide) (by decide) rfl rfl wd_67) (
  e_more (s_aload_n (k := 0) (by decide +kernel) rfl) (
  e_more (s_iconst (n := 0) (v := 0) (by decide +kernel) (by decide)) (
  e_more (s_putI (c := 2) (j := 3) (idx := 21) (by decide +kernel) (by decide) (by decide) rfl rfl wd_70) (
  e_more (s_aload_n (k := 0) (by decide +kernel) rfl) (
  e_more (s_iconst (n := (-1)) (v := (-1)) (by decide +kernel) (by decide)) (
  e_more (s_putI (c := 2) (j := 4) (idx := 24) (by decide +kernel) (by decide) (by decide) rfl rfl wd_72) (
  e_more (s_aload_n (k := 0) (by decide +kernel) rfl) (
  e_more (s_iconst (n := 0) (v := 0) (by decide +kernel) (by decide)) (
  e_more (s_putN (c := 2) (j := 5) (idx := 27) (by decide +kernel) (by decide) (by decide) rfl rfl rfl wd_75) (
  e_more (s_aload_n (k := 0) (by decide +kernel) rfl) (
  e_more (s_iconst (n := 0) (v := 0) (by decide +kernel) (by decide)) (
  e_more (s_putI (c := 2) (j := 6) (idx := 31) (by decide +kernel) (by decide) (by decide) rfl rfl wd_77) (
  e_more (s_ret (by decide +kernel) rfl) (
  e_no_more))))))))))))))))))))))
def w_X2_come : eW := e_sf 2 (e_rn tb_X2_come (iL i_X2_come) 0 0)
theorem k_X2_come : e_OK e_rf i_X2_come 0 0 w_X2_come := k_sf (k_rn (own := RX2) ⟨by decide +kernel, rfl⟩ st_X2_come)
abbrev i_X1_come : eI := (yX1_come, cX1_come, 2, none, 0)
theorem cl_X1_come : e_Cl i_X1_come 1 := ⟨wd_942, wd_18, ⟨by decide, by decide⟩, by decide +kernel, by decide⟩
def tb_X1_come : eTb := [(0, t_ldO 0 1 0), (1, t_ldI 1 1 1), (2, t_putI 1 0 2), (5, t_ldO 0 1 5), (6, t_push (.inl 0) 1 6), (7, t_putI 1 1 7), (10, t_ldO 0 1 10), (11, t_push (.inl (-1)) 1 11), (12, t_putI 1 2 12), (15, t_ldO 0 1 15), (16, t_push (.inl 0) 1 16), (17, t_putI 1 3 17), (20, t_ldO 0 1 20), (21, t_push (.inl 0) 1 21), (22, t_putI 1 4 22), (25, t_ret)]
theorem st_X1_come : ∀ x ∈ tb_X1_come, e_Sd e_rf RX1 i_X1_come x.1 x.2 :=
  e_more (s_aload_n (k := 0) (by decide +kernel) rfl) (
  e_more (s_iload_n (k := 1) (by decide +kernel) rfl) (
  e_more (s_putI (c := 1) (j := 0) (idx := 9) (by decide +kernel) (by decide) (by decide) rfl rfl wd_100) (
  e_more (s_aload_n (k := 0) (by decide +kernel) rfl) (
  e_more (s_iconst (n := 0) (v := 0) (by decide +kernel) (by decide)) (
  e_more (s_putI (c := 1) (j := 1) (idx := 15) (by decide +kernel) (by decide) (by decide) rfl rfl wd_103) (
  e_more (s_aload_n (k := 0) (by decide +kernel) rfl) (
  e_more (s_iconst (n := (-1)) (v := (-1)) (by decide +kernel) (by decide)) (
  e_more (s_putI (c := 1) (j := 2) (idx := 18) (by decide +kernel) (by decide) (by decide) rfl rfl wd_106) (
  e_more (s_aload_n (k := 0) (by decide +kernel) rfl) (
  e_more (s_iconst (n := 0) (v := 0) (by decide +kernel) (by decide)) (
  e_more (s_putI (c := 1) (j := 3) (idx := 21) (by decide +kernel) (by decide) (by decide) rfl rfl wd_108) (
  e_more (s_aload_n (k := 0) (by decide +kernel) rfl) (
  e_more (s_iconst (n := 0) (v := 0) (by decide +kernel) (by decide)) (
  e_more (s_putI (c := 1) (j := 4) (idx := 24) (by decide +kernel) (by decide) (by decide) rfl rfl wd_110) (
  e_more (s_ret (by decide +kernel) rfl) (
  e_no_more))))))))))))))))
def w_X1_come : eW := e_sf 3 (e_rn tb_X1_come (iL i_X1_come) 0 0)
theorem k_X1_come : e_OK e_rf i_X1_come 0 0 w_X1_come := k_sf (k_rn (own := RX1) ⟨by decide +kernel, rfl⟩ st_X1_come)
abbrev i_X1_isLent : eI := (yX1_isLent, cX1_isLent, 1, (some .boolean), 0)
theorem cl_X1_isLent : e_Cl i_X1_isLent 0 := ⟨wd_792, wd_18, ⟨by decide, by decide⟩, by decide +kernel, by decide⟩
def tb_X1_isLent : eTb := [(0, t_ldO 0 1 0), (1, t_getI 1 2 1), (4, t_push (.inl (-1)) 1 4), (5, t_ic (fun a b => a = b) 12 5), (8, t_push (.inl 1) 1 8), (9, t_goto 13), (12, t_push (.inl 0) 1 12), (13, t_zret)]
theorem st_X1_isLent : ∀ x ∈ tb_X1_isLent, e_Sd e_rf RX1 i_X1_isLent x.1 x.2 :=
  e_more (s_aload_n (k := 0) (by decide +kernel) rfl) (
  e_more (s_getI (c := 1) (j := 2) (idx := 18) (by decide +kernel) (by decide) (by decide) rfl wd_106) (
  e_more (s_iconst (n := (-1)) (v := (-1)) (by decide +kernel) (by decide)) (
  e_more (s_ic_eq (off := 7) (by decide +kernel) (by decide)) (
  e_more (s_iconst (n := 1) (v := 1) (by decide +kernel) (by decide)) (
  e_more (s_goto (off := 4) (by decide +kernel) (by decide)) (
  e_more (s_iconst (n := 0) (v := 0) (by decide +kernel) (by decide)) (
  e_more (s_zret (by decide +kernel) rfl) (
  e_no_more))))))))
def w_X1_isLent : eW := e_sf 3 (e_rn tb_X1_isLent (iL i_X1_isLent) 0 0)
theorem k_X1_isLent : e_OK e_rf i_X1_isLent 0 0 w_X1_isLent := k_sf (k_rn (own := RX1) ⟨by decide +kernel, rfl⟩ st_X1_isLent)
abbrev i_X1_isPlayable : eI := (yX1_isPlayable, cX1_isPlayable, 1, (some .boolean), 0)
theorem cl_X1_isPlayable : e_Cl i_X1_isPlayable 0 := ⟨wd_345, wd_18, ⟨by decide, by decide⟩, by decide +kernel, by decide⟩
def tb_X1_isPlayable : eTb := [(0, t_ldO 0 1 0), (1, t_getI 1 1 1), (4, t_push (.inl 5) 1 4), (5, t_ic (fun a b => b ≤ a) 12 5), (8, t_push (.inl 1) 1 8), (9, t_goto 13), (12, t_push (.inl 0) 1 12), (13, t_zret)]
theorem st_X1_isPlayable : ∀ x ∈ tb_X1_isPlayable, e_Sd e_rf RX1 i_X1_isPlayable x.1 x.2 :=
  e_more (s_aload_n (k := 0) (by decide +kernel) rfl) (
  e_more (s_getI (c := 1) (j := 1) (idx := 15) (by decide +kernel) (by decide) (by decide) rfl wd_103) (
  e_more (s_iconst (n := 5) (v := 5) (by decide +kernel) (by decide)) (
  e_more (s_ic_ge (off := 7) (by decide +kernel) (by decide)) (
  e_more (s_iconst (n := 1) (v := 1) (by decide +kernel) (by decide)) (
  e_more (s_goto (off := 4) (by decide +kernel) (by decide)) (
  e_more (s_iconst (n := 0) (v := 0) (by decide +kernel) (by decide)) (
  e_more (s_zret (by decide +kernel) rfl) (
  e_no_more))))))))
def w_X1_isPlayable : eW := e_sf 3 (e_rn tb_X1_isPlayable (iL i_X1_isPlayable) 0 0)
theorem k_X1_isPlayable : e_OK e_rf i_X1_isPlayable 0 0 w_X1_isPlayable := k_sf (k_rn (own := RX1) ⟨by decide +kernel, rfl⟩ st_X1_isPlayable)
abbrev i_X1_dentsSinceLent : eI := (yX1_dentsSinceLent, cX1_dentsSinceLent, 1, (some .int), 0)
theorem cl_X1_dentsSinceLent : e_Cl i_X1_dentsSinceLent 0 := ⟨wd_796, wd_18, ⟨by decide, by decide⟩, by decide +kernel, by decide⟩
def tb_X1_dentsSinceLent : eTb := [(0, t_ldO 0 1 0), (1, t_getI 1 1 1), (4, t_ldO 0 1 4), (5, t_getI 1 3 5), (8, t_ii (fun a b => a - b) 8), (9, t_jret)]
theorem st_X1_dentsSinceLent : ∀ x ∈ tb_X1_dentsSinceLent, e_Sd e_rf RX1 i_X1_dentsSinceLent x.1 x.2 :=
  e_more (s_aload_n (k := 0) (by decide +kernel) rfl) (
  e_more (s_getI (c := 1) (j := 1) (idx := 15) (by decide +kernel) (by decide) (by decide) rfl wd_103) (
  e_more (s_aload_n (k := 0) (by decide +kernel) rfl) (
  e_more (s_getI (c := 1) (j := 3) (idx := 21) (by decide +kernel) (by decide) (by decide) rfl wd_108) (
  e_more (s_isub (by decide +kernel)) (
  e_more (s_jret (by decide +kernel) rfl) (
  e_no_more))))))
def w_X1_dentsSinceLent : eW := e_sf 3 (e_rn tb_X1_dentsSinceLent (iL i_X1_dentsSinceLent) 0 0)
theorem k_X1_dentsSinceLent : e_OK e_rf i_X1_dentsSinceLent 0 0 w_X1_dentsSinceLent := k_sf (k_rn (own := RX1) ⟨by decide +kernel, rfl⟩ st_X1_dentsSinceLent)
abbrev i_X1_priceOfRepair : eI := (yX1_priceOfRepair, cX1_priceOfRepair, 1, (some .int), 0)
theorem cl_X1_priceOfRepair : e_Cl i_X1_priceOfRepair 0 := ⟨wd_992, wd_18, ⟨by decide, by decide⟩, by decide +kernel, by decide⟩
def tb_X1_priceOfRepair : eTb := [(0, t_push (.inl 15) 2 0), (2, t_ldO 0 1 2), (3, t_getI 1 1 3), (6, t_ii (fun a b => a * b) 6), (7, t_jret)]
theorem st_X1_priceOfRepair : ∀ x ∈ tb_X1_priceOfRepair, e_Sd e_rf RX1 i_X1_priceOfRepair x.1 x.2 :=
  e_more (s_bipush (n := 15) (v := 15) (by decide +kernel) (by decide)) (
  e_more (s_aload_n (k := 0) (by decide +kernel) rfl) (
  e_more (s_getI (c := 1) (j := 1) (idx := 15) (by decide +kernel) (by decide) (by decide) rfl wd_103) (
  e_more (s_imul (by decide +kernel)) (
  e_more (s_jret (by decide +kernel) rfl) (
  e_no_more)))))
def w_X1_priceOfRepair : eW := e_sf 3 (e_rn tb_X1_priceOfRepair (iL i_X1_priceOfRepair) 0 0)
theorem k_X1_priceOfRepair : e_OK e_rf i_X1_priceOfRepair 0 0 w_X1_priceOfRepair := k_sf (k_rn (own := RX1) ⟨by decide +kernel, rfl⟩ st_X1_priceOfRepair)
abbrev i_X2_learn : eI := (yX2_learn, cX2_learn, 3, none, 0)
theorem cl_X2_learn : e_Cl i_X2_learn 2 := ⟨wd_839, wd_17, ⟨by decide, by decide⟩, by decide +kernel, by decide⟩
def tb_X2_learn : eTb := [(0, t_ldO 0 1 0), (1, t_dup 1), (2, t_getI 2 2 2), (5, t_ldI 1 1 5), (6, t_ii (fun a b => a + b) 6), (7, t_putI 2 2 7), (10, t_ldO 0 1 10), (11, t_dup 11), (12, t_getI 2 1 12), (15, t_ldI 2 1 15), (16, t_ii (fun a b => a - b) 16), (17, t_putI 2 1 17), (20, t_ret)]
theorem st_X2_learn : ∀ x ∈ tb_X2_learn, e_Sd e_rf RX2 i_X2_learn x.1 x.2 :=
  e_more (s_aload_n (k := 0) (by decide +kernel) rfl) (
  e_more (s_dup (by decide +kernel)) (
  e_more (s_getI (c := 2) (j := 2) (idx := 18) (by decide +kernel) (by decide) (by decide) rfl wd_67) (
  e_more (s_iload_n (k := 1) (by decide +kernel) rfl) (
  e_more (s_iadd (by decide +kernel)) (
  e_more (s_putI (c := 2) (j := 2) (idx := 18) (by decide +kernel) (by decide) (by decide) rfl rfl wd_67) (
  e_more (s_aload_n (k := 0) (by decide +kernel) rfl) (
  e_more (s_dup (by decide +kernel)) (
  e_more (s_getI (c := 2) (j := 1) (idx := 15) (by decide +kernel) (by decide) (by decide) rfl wd_64) (
  e_more (s_iload_n (k := 2) (by decide +kernel) rfl) (
  e_more (s_isub (by decide +kernel)) (
  e_more (s_putI (c := 2) (j := 1) (idx := 15) (by decide +kernel) (by decide) (by decide) rfl rfl wd_64) (
  e_more (s_ret (by decide +kernel) rfl) (
  e_no_more)))))))))))))
def w_X2_learn : eW := e_sf 2 (e_rn tb_X2_learn (iL i_X2_learn) 0 0)
theorem k_X2_learn : e_OK e_rf i_X2_learn 0 0 w_X2_learn := k_sf (k_rn (own := RX2) ⟨by decide +kernel, rfl⟩ st_X2_learn)
abbrev i_X1_addDents : eI := (yX1_addDents, cX1_addDents, 2, none, 1)
theorem cl_X1_addDents : e_Cl i_X1_addDents 1 := ⟨wd_1006, wd_18, ⟨by decide, by decide⟩, by decide +kernel, by decide⟩
def tb_X1_addDents : eTb := [(0, t_ldO 0 1 0), (1, t_push (.inl 9) 2 1), (3, t_ldO 0 1 3), (4, t_getI 1 1 4), (7, t_ldI 1 1 7), (8, t_ii (fun a b => a + b) 8), (9, fun _ _ K lc st S bc bs => e_pI st fun b r => e_pI r fun a r => cond (Nat.ble (e_sz r) 8) (K (9 + 3) lc (.inl (if b < a then b else a) :: r) S bc bs) False), (12, t_putI 1 1 12), (15, t_ret)]
theorem st_X1_addDents : ∀ x ∈ tb_X1_addDents, e_Sd e_rf RX1 i_X1_addDents x.1 x.2 :=
  e_more (s_aload_n (k := 0) (by decide +kernel) rfl) (
  e_more (s_bipush (n := 9) (v := 9) (by decide +kernel) (by decide)) (
  e_more (s_aload_n (k := 0) (by decide +kernel) rfl) (
  e_more (s_getI (c := 1) (j := 1) (idx := 15) (by decide +kernel) (by decide) (by decide) rfl wd_103) (
  e_more (s_iload_n (k := 1) (by decide +kernel) rfl) (
  e_more (s_iadd (by decide +kernel)) (
  e_more (s_min (idx := 27) (by decide +kernel) wd_1007 wd_493 wd_30 wd_494 (by decide)) (
  e_more (s_putI (c := 1) (j := 1) (idx := 15) (by decide +kernel) (by decide) (by decide) rfl rfl wd_103) (
  e_more (s_ret (by decide +kernel) rfl) (
  e_no_more)))))))))
def w_X1_addDents : eW := e_sf 3 (e_rn tb_X1_addDents (iL i_X1_addDents) 0 0)
theorem k_X1_addDents : e_OK e_rf i_X1_addDents 0 0 w_X1_addDents := k_sf (k_rn (own := RX1) ⟨by decide +kernel, rfl⟩ st_X1_addDents)
abbrev i_X1_playMarch : eI := (yX1_playMarch, cX1_playMarch, 1, none, 2)
theorem cl_X1_playMarch : e_Cl i_X1_playMarch 0 := ⟨wd_1098, wd_18, ⟨by decide, by decide⟩, by decide +kernel, by decide⟩
def tb_X1_playMarch : eTb := [(0, t_ldO 0 1 0), (1, t_dup 1), (2, t_getI 1 4 2), (5, t_push (.inl 1) 1 5), (6, t_ii (fun a b => a + b) 6), (7, t_putI 1 4 7), (10, t_ldO 0 1 10), (11, t_getI 1 4 11), (14, t_push (.inl 3) 1 14), (15, t_idv (fun a b => a - a / b * b) 15), (16, t_ifn (fun a => a = 0) 24 16), (19, t_ldO 0 1 19), (20, t_push (.inl 1) 1 20), (21, t_call0 2 w_X1_addDents 21), (24, t_ret)]
theorem st_X1_playMarch : ∀ x ∈ tb_X1_playMarch, e_Sd e_rf RX1 i_X1_playMarch x.1 x.2 :=
  e_more (s_aload_n (k := 0) (by decide +kernel) rfl) (
  e_more (s_dup (by decide +kernel)) (
  e_more (s_getI (c := 1) (j := 4) (idx := 24) (by decide +kernel) (by decide) (by decide) rfl wd_110) (
  e_more (s_iconst (n := 1) (v := 1) (by decide +kernel) (by decide)) (
  e_more (s_iadd (by decide +kernel)) (
  e_more (s_putI (c := 1) (j := 4) (idx := 24) (by decide +kernel) (by decide) (by decide) rfl rfl wd_110) (
  e_more (s_aload_n (k := 0) (by decide +kernel) rfl) (
  e_more (s_getI (c := 1) (j := 4) (idx := 24) (by decide +kernel) (by decide) (by decide) rfl wd_110) (
  e_more (s_iconst (n := 3) (v := 3) (by decide +kernel) (by decide)) (
  e_more (s_irem (by decide +kernel)) (
  e_more (s_if_ne (off := 8) (by decide +kernel) (by decide)) (
  e_more (s_aload_n (k := 0) (by decide +kernel) rfl) (
  e_more (s_iconst (n := 1) (v := 1) (by decide +kernel) (by decide)) (
  e_more (e_call0 (s_callV (c := 1) (idx := 33) k_X1_addDents (by decide +kernel) cl_X1_addDents (by decide) rfl wd_1099 wd_1004 wd_1005 (by decide) (e_sf_rec rfl))) (
  e_more (s_ret (by decide +kernel) rfl) (
  e_no_more)))))))))))))))
def w_X1_playMarch : eW := e_sf 3 (e_rn tb_X1_playMarch (iL i_X1_playMarch) 0 0)
theorem k_X1_playMarch : e_OK e_rf i_X1_playMarch 0 0 w_X1_playMarch := k_sf (k_rn (own := RX1) ⟨by decide +kernel, rfl⟩ st_X1_playMarch)
abbrev i_X1_number : eI := (yX1_number, cX1_number, 2, (some .int), 1)
theorem cl_X1_number : e_Cl i_X1_number 1 := ⟨wd_788, wd_18, ⟨by decide, by decide⟩, by decide +kernel, by decide⟩
def tb_X1_number : eTb := [(0, t_ldI 1 1 0), (1, t_sw [(0, 36), (1, 41), (2, 46), (3, 51), (4, 56)] 72), (36, t_ldO 0 1 36), (37, t_getI 1 0 37), (40, t_jret), (41, t_ldO 0 1 41), (42, t_getI 1 1 42), (45, t_jret), (46, t_ldO 0 1 46), (47, t_getI 1 2 47), (50, t_jret), (51, t_ldO 0 1 51), (52, t_getI 1 4 52), (55, t_jret), (56, t_ldO 0 1 56), (57, t_call0 1 w_X1_isLent 57), (60, t_if (fun a => a = 0) 70 60), (63, t_ldO 0 1 63), (64, t_call0 1 w_X1_dentsSinceLent 64), (67, t_goto 71), (70, t_push (.inl (-1)) 1 70), (71, t_jret), (72, t_ldO 0 1 72), (73, t_call0 1 w_X1_isPlayable 73), (76, t_if (fun a => a = 0) 83 76), (79, t_push (.inl 1) 1 79), (80, t_goto 84), (83, t_push (.inl 0) 1 83), (84, t_jret)]
theorem st_X1_number : ∀ x ∈ tb_X1_number, e_Sd e_rf RX1 i_X1_number x.1 x.2 :=
  e_more (s_iload_n (k := 1) (by decide +kernel) rfl) (
  e_more (s_table (dflt := 71) (lo := 0) (hi := 4) (offs := #[35, 40, 45, 50, 55]) (len := 35) (l := [(0, 36), (1, 41), (2, 46), (3, 51), (4, 56)]) (by decide +kernel) (by decide +kernel) (by decide +kernel) (by decide)) (
  e_more (s_aload_n (k := 0) (by decide +kernel) rfl) (
  e_more (s_getI (c := 1) (j := 0) (idx := 9) (by decide +kernel) (by decide) (by decide) rfl wd_100) (
  e_more (s_jret (by decide +kernel) rfl) (
  e_more (s_aload_n (k := 0) (by decide +kernel) rfl) (
  e_more (s_getI (c := 1) (j := 1) (idx := 15) (by decide +kernel) (by decide) (by decide) rfl wd_103) (
  e_more (s_jret (by decide +kernel) rfl) (
  e_more (s_aload_n (k := 0) (by decide +kernel) rfl) (
  e_more (s_getI (c := 1) (j := 2) (idx := 18) (by decide +kernel) (by decide) (by decide) rfl wd_106) (
  e_more (s_jret (by decide +kernel) rfl) (
  e_more (s_aload_n (k := 0) (by decide +kernel) rfl) (
  e_more (s_getI (c := 1) (j := 4) (idx := 24) (by decide +kernel) (by decide) (by decide) rfl wd_110) (
  e_more (s_jret (by decide +kernel) rfl) (
  e_more (s_aload_n (k := 0) (by decide +kernel) rfl) (
  e_more (e_call0 (s_callV (c := 1) (idx := 37) k_X1_isLent (by decide +kernel) cl_X1_isLent (by decide) rfl wd_789 wd_790 wd_791 (by decide) (e_sf_rec rfl))) (
  e_more (s_if_eq (off := 10) (by decide +kernel) (by decide)) (
  e_more (s_aload_n (k := 0) (by decide +kernel) rfl) (
  e_more (e_call0 (s_callV (c := 1) (idx := 41) k_X1_dentsSinceLent (by decide +kernel) cl_X1_dentsSinceLent (by decide) rfl wd_793 wd_794 wd_795 (by decide) (e_sf_rec rfl))) (
  e_more (s_goto (off := 4) (by decide +kernel) (by decide)) (
  e_more (s_iconst (n := (-1)) (v := (-1)) (by decide +kernel) (by decide)) (
  e_more (s_jret (by decide +kernel) rfl) (
  e_more (s_aload_n (k := 0) (by decide +kernel) rfl) (
  e_more (e_call0 (s_callV (c := 1) (idx := 45) k_X1_isPlayable (by decide +kernel) cl_X1_isPlayable (by decide) rfl wd_797 wd_343 wd_344 (by decide) (e_sf_rec rfl))) (
  e_more (s_if_eq (off := 7) (by decide +kernel) (by decide)) (
  e_more (s_iconst (n := 1) (v := 1) (by decide +kernel) (by decide)) (
  e_more (s_goto (off := 4) (by decide +kernel) (by decide)) (
  e_more (s_iconst (n := 0) (v := 0) (by decide +kernel) (by decide)) (
  e_more (s_jret (by decide +kernel) rfl) (
  e_no_more)))))))))))))))))))))))))))))
def w_X1_number : eW := e_sf 3 (e_rn tb_X1_number (iL i_X1_number) 0 0)
theorem k_X1_number : e_OK e_rf i_X1_number 0 0 w_X1_number := k_sf (k_rn (own := RX1) ⟨by decide +kernel, rfl⟩ st_X1_number)
abbrev i_X2_number : eI := (yX2_number, cX2_number, 2, (some .int), 0)
theorem cl_X2_number : e_Cl i_X2_number 1 := ⟨wd_778, wd_17, ⟨by decide, by decide⟩, by decide +kernel, by decide⟩
def tb_X2_number : eTb := [(0, t_ldI 1 1 0), (1, t_sw [(0, 40), (1, 45), (2, 50), (3, 55), (4, 60), (5, 65)] 78), (40, t_ldO 0 1 40), (41, t_getI 2 0 41), (44, t_jret), (45, t_ldO 0 1 45), (46, t_getI 2 1 46), (49, t_jret), (50, t_ldO 0 1 50), (51, t_getI 2 2 51), (54, t_jret), (55, t_ldO 0 1 55), (56, t_getI 2 3 56), (59, t_jret), (60, t_ldO 0 1 60), (61, t_getI 2 4 61), (64, t_jret), (65, t_ldO 0 1 65), (66, t_getI 2 5 66), (69, t_if (fun a => a = 0) 76 69), (72, t_push (.inl 1) 1 72), (73, t_goto 77), (76, t_push (.inl 0) 1 76), (77, t_jret), (78, t_ldO 0 1 78), (79, t_getI 2 6 79), (82, t_jret)]
theorem st_X2_number : ∀ x ∈ tb_X2_number, e_Sd e_rf RX2 i_X2_number x.1 x.2 :=
  e_more (s_iload_n (k := 1) (by decide +kernel) rfl) (
  e_more (s_table (dflt := 77) (lo := 0) (hi := 5) (offs := #[39, 44, 49, 54, 59, 64]) (len := 39) (l := [(0, 40), (1, 45), (2, 50), (3, 55), (4, 60), (5, 65)]) (by decide +kernel) (by decide +kernel) (by decide +kernel) (by decide)) (
  e_more (s_aload_n (k := 0) (by decide +kernel) rfl) (
  e_more (s_getI (c := 2) (j := 0) (idx := 9) (by decide +kernel) (by decide) (by decide) rfl wd_62) (
  e_more (s_jret (by decide +kernel) rfl) (
  e_more (s_aload_n (k := 0) (by decide +kernel) rfl) (
  e_more (s_getI (c := 2) (j := 1) (idx := 15) (by decide +kernel) (by decide) (by decide) rfl wd_64) (
  e_more (s_jret (by decide +kernel) rfl) (
  e_more (s_aload_n (k := 0) (by decide +kernel) rfl) (
  e_more (s_getI (c := 2) (j := 2) (idx := 18) (by decide +kernel) (by decide) (by decide) rfl wd_67) (
  e_more (s_jret (by decide +kernel) rfl) (
  e_more (s_aload_n (k := 0) (by decide +kernel) rfl) (
  e_more (s_getI (c := 2) (j := 3) (idx := 21) (by decide +kernel) (by decide) (by decide) rfl wd_70) (
  e_more (s_jret (by decide +kernel) rfl) (
  e_more (s_aload_n (k := 0) (by decide +kernel) rfl) (
  e_more (s_getI (c := 2) (j := 4) (idx := 24) (by decide +kernel) (by decide) (by decide) rfl wd_72) (
  e_more (s_jret (by decide +kernel) rfl) (
  e_more (s_aload_n (k := 0) (by decide +kernel) rfl) (
  e_more (s_getI (c := 2) (j := 5) (idx := 27) (by decide +kernel) (by decide) (by decide) rfl wd_75) (
  e_more (s_if_eq (off := 7) (by decide +kernel) (by decide)) (
  e_more (s_iconst (n := 1) (v := 1) (by decide +kernel) (by decide)) (
  e_more (s_goto (off := 4) (by decide +kernel) (by decide)) (
  e_more (s_iconst (n := 0) (v := 0) (by decide +kernel) (by decide)) (
  e_more (s_jret (by decide +kernel) rfl) (
  e_more (s_aload_n (k := 0) (by decide +kernel) rfl) (
  e_more (s_getI (c := 2) (j := 6) (idx := 31) (by decide +kernel) (by decide) (by decide) rfl wd_77) (
  e_more (s_jret (by decide +kernel) rfl) (
  e_no_more)))))))))))))))))))))))))))
def w_X2_number : eW := e_sf 2 (e_rn tb_X2_number (iL i_X2_number) 0 0)
theorem k_X2_number : e_OK e_rf i_X2_number 0 0 w_X2_number := k_sf (k_rn (own := RX2) ⟨by decide +kernel, rfl⟩ st_X2_number)
