/-! StringBuilder and String: tables and readings, by program. Own work. -/
abbrev i_J5_length_8abf5 : eI := (yJ5_length_8abf5, cJ5_length_8abf5, 1, (some .int), 0)
theorem cl_J5_length_8abf5 : e_Cl i_J5_length_8abf5 0 := ⟨wd_622, wd_20, ⟨by decide, by decide⟩, by decide +kernel, by decide⟩
def tb_J5_length_8abf5 : eTb := [(0, t_ldO 0 1 0), (1, t_getI 6 3 1), (4, t_jret)]
theorem st_J5_length_8abf5 : ∀ x ∈ tb_J5_length_8abf5, e_Sd e_rf RJ5 i_J5_length_8abf5 x.1 x.2 :=
  e_more (s_aload_n (k := 0) (by decide +kernel) rfl) (
  e_more (s_getI (c := 6) (j := 3) (idx := 79) (by decide +kernel) (by decide) (by decide) rfl wd_208) (
  e_more (s_jret (by decide +kernel) rfl) (
  e_no_more)))
def w_J5_length_8abf5 : eW := e_sf 10 (e_rn tb_J5_length_8abf5 (iL i_J5_length_8abf5) 0 0)
theorem k_J5_length_8abf5 : e_OK e_rf i_J5_length_8abf5 0 0 w_J5_length_8abf5 := k_sf (k_rn (own := RJ5) ⟨by decide +kernel, rfl⟩ st_J5_length_8abf5)
abbrev i_J4_length_8abf5 : eI := (yJ4_length_8abf5, cJ4_length_8abf5, 1, (some .int), 1)
theorem cl_J4_length_8abf5 : e_Cl i_J4_length_8abf5 0 := ⟨wd_620, wd_21, ⟨by decide, by decide⟩, by decide +kernel, by decide⟩
def tb_J4_length_8abf5 : eTb := [(0, t_ldO 0 1 0), (1, t_call0 1 w_J5_length_8abf5 1), (4, t_jret)]
theorem st_J4_length_8abf5 : ∀ x ∈ tb_J4_length_8abf5, e_Sd e_rf RJ4 i_J4_length_8abf5 x.1 x.2 :=
  e_more (s_aload_n (k := 0) (by decide +kernel) rfl) (
  e_more (e_call0 (s_callSU (c := 6) (idx := 343) k_J5_length_8abf5 (by decide +kernel) cl_J5_length_8abf5 (by decide) wd_621 wd_616 wd_617 wd_217 (by decide) (by decide) (e_sf_rec rfl))) (
  e_more (s_jret (by decide +kernel) rfl) (
  e_no_more)))
def w_J4_length_8abf5 : eW := e_sf 10 (e_rn tb_J4_length_8abf5 (iL i_J4_length_8abf5) 0 0)
theorem k_J4_length_8abf5 : e_OK e_rf i_J4_length_8abf5 0 0 w_J4_length_8abf5 := k_sf (k_rn (own := RJ4) ⟨by decide +kernel, rfl⟩ st_J4_length_8abf5)
abbrev i_J8_newLength_cabcc : eI := (yJ8_newLength_cabcc, cJ8_newLength_cabcc, 4, (some .int), 1)
theorem cl_J8_newLength_cabcc : e_Cl i_J8_newLength_cabcc 3 := ⟨wd_475, wd_32, ⟨by decide, by decide⟩, by decide +kernel, by decide⟩
def tb_J8_newLength_cabcc : eTb := [(0, t_ldI 0 1 0), (1, t_ldI 1 1 1), (2, t_ldI 2 1 2), (3, fun _ _ K lc st S bc bs => e_pI st fun b r => e_pI r fun a r => cond (Nat.ble (e_sz r) 8) (K (3 + 3) lc (.inl (if a < b then b else a) :: r) S bc bs) False), (6, t_ii (fun a b => a + b) 6), (7, t_stI 3 1 7), (8, t_push (.inl 0) 1 8), (9, t_ldI 3 1 9), (10, t_ic (fun a b => b ≤ a) 21 10), (13, t_ldI 3 1 13), (14, t_push (.inl 2147483639) 2 14), (16, t_ic (fun a b => b < a) 21 16), (19, t_ldI 3 1 19), (20, t_jret), (21, t_ldI 0 1 21), (22, t_ldI 1 1 22), (26, t_jret)]
theorem st_J8_newLength_cabcc : ∀ x ∈ tb_J8_newLength_cabcc, e_Sd e_rf RJ8 i_J8_newLength_cabcc x.1 x.2 :=
  e_more (s_iload_n (k := 0) (by decide +kernel) rfl) (
  e_more (s_iload_n (k := 1) (by decide +kernel) rfl) (
  e_more (s_iload_n (k := 2) (by decide +kernel) rfl) (
  e_more (s_max (idx := 194) (by decide +kernel) wd_476 wd_365 wd_30 wd_366 (by decide)) (
  e_more (s_iadd (by decide +kernel)) (
  e_more (s_istore_n (k := 3) (by decide +kernel) rfl (by decide)) (
  e_more (s_iconst (n := 0) (v := 0) (by decide +kernel) (by decide)) (
  e_more (s_iload_n (k := 3) (by decide +kernel) rfl) (
  e_more (s_ic_ge (off := 11) (by decide +kernel) (by decide)) (
  e_more (s_iload_n (k := 3) (by decide +kernel) rfl) (
  e_more (s_ldc (i := 200) (v := 2147483639) (by decide +kernel) wd_477) (
  e_more (s_ic_gt (off := 5) (by decide +kernel) (by decide)) (
  e_more (s_iload_n (k := 3) (by decide +kernel) rfl) (
  e_more (s_jret (by decide +kernel) rfl) (
  e_more (s_iload_n (k := 0) (by decide +kernel) rfl) (
  e_more (s_iload_n (k := 1) (by decide +kernel) rfl) (
  e_more (s_jret (by decide +kernel) rfl) (
  e_no_more)))))))))))))))))
def w_J8_newLength_cabcc : eW := e_rn tb_J8_newLength_cabcc (iL i_J8_newLength_cabcc) 0 0
theorem k_J8_newLength_cabcc : e_OK e_rf i_J8_newLength_cabcc 0 0 w_J8_newLength_cabcc := k_rn (own := RJ8) ⟨by decide +kernel, rfl⟩ st_J8_newLength_cabcc
abbrev i_J5_newCapacity_0f7a4 : eI := (yJ5_newCapacity_0f7a4, cJ5_newCapacity_0f7a4, 6, (some .int), 2)
theorem cl_J5_newCapacity_0f7a4 : e_Cl i_J5_newCapacity_0f7a4 1 := ⟨wd_472, wd_20, ⟨by decide, by decide⟩, by decide +kernel, by decide⟩
def tb_J5_newCapacity_0f7a4 : eTb := [(0, t_ldO 0 1 0), (1, t_getR e_rf 6 0 1), (4, t_alen 4), (5, t_stI 2 1 5), (6, t_ldI 1 1 6), (7, t_ldO 0 1 7), (8, t_getI 6 1 8), (11, t_ii (fun a b => a <<< (b &&& 31)) 11), (12, t_stI 3 1 12), (13, t_ldI 3 1 13), (14, t_ldI 2 1 14), (15, t_ii (fun a b => a - b) 15), (16, t_stI 4 2 16), (18, t_ldI 2 1 18), (19, t_ldI 4 2 19), (21, t_ldI 2 1 21), (22, t_push (.inl 2) 1 22), (23, t_ldO 0 1 23), (24, t_getI 6 1 24), (27, t_ii (fun a b => a <<< (b &&& 31)) 27), (28, t_ii (fun a b => a + b) 28), (29, t_call0 3 w_J8_newLength_cabcc 29), (32, t_stI 5 2 32), (34, t_ldI 5 2 34), (36, t_push (.inl 2147483647) 2 36), (38, t_icn (fun a b => a = b) 51 38), (44, t_dup 44), (51, t_ldI 5 2 51), (53, t_ldO 0 1 53), (54, t_getI 6 1 54), (57, t_ii (fun a b => a >>> (b &&& 31)) 57), (58, t_jret)]
theorem st_J5_newCapacity_0f7a4 : ∀ x ∈ tb_J5_newCapacity_0f7a4, e_Sd e_rf RJ5 i_J5_newCapacity_0f7a4 x.1 x.2 :=
  e_more (s_aload_n (k := 0) (by decide +kernel) rfl) (
  e_more (s_getR (c := 6) (j := 0) (idx := 15) (by decide +kernel) (by decide) (by decide) rfl wd_204) (
  e_more (s_alen (by decide +kernel)) (
  e_more (s_istore_n (k := 2) (by decide +kernel) rfl (by decide)) (
  e_more (s_iload_n (k := 1) (by decide +kernel) rfl) (
  e_more (s_aload_n (k := 0) (by decide +kernel) rfl) (
  e_more (s_getI (c := 6) (j := 1) (idx := 22) (by decide +kernel) (by decide) (by decide) rfl wd_205) (
  e_more (s_ishl (by decide +kernel)) (
  e_more (s_istore_n (k := 3) (by decide +kernel) rfl (by decide)) (
  e_more (s_iload_n (k := 3) (by decide +kernel) rfl) (
  e_more (s_iload_n (k := 2) (by decide +kernel) rfl) (
  e_more (s_isub (by decide +kernel)) (
  e_more (s_istore (by decide +kernel) (by decide)) (
  e_more (s_iload_n (k := 2) (by decide +kernel) rfl) (
  e_more (s_iload (by decide +kernel)) (
  e_more (s_iload_n (k := 2) (by decide +kernel) rfl) (
  e_more (s_iconst (n := 2) (v := 2) (by decide +kernel) (by decide)) (
  e_more (s_aload_n (k := 0) (by decide +kernel) rfl) (
  e_more (s_getI (c := 6) (j := 1) (idx := 22) (by decide +kernel) (by decide) (by decide) rfl wd_205) (
  e_more (s_ishl (by decide +kernel)) (
  e_more (s_iadd (by decide +kernel)) (
  e_more (e_call0 (s_callS (idx := 114) k_J8_newLength_cabcc (by decide +kernel) cl_J8_newLength_cabcc wd_473 wd_474 (by decide))) (
  e_more (s_istore (by decide +kernel) (by decide)) (
  e_more (s_iload (by decide +kernel)) (
  e_more (s_ldc (i := 39) (v := 2147483647) (by decide +kernel) wd_481) (
  e_more (s_ic_ne (off := 13) (by decide +kernel) (by decide)) (
  e_more (s_dup (by decide +kernel)) (
  e_more (s_iload (by decide +kernel)) (
  e_more (s_aload_n (k := 0) (by decide +kernel) rfl) (
  e_more (s_getI (c := 6) (j := 1) (idx := 22) (by decide +kernel) (by decide) (by decide) rfl wd_205) (
  e_more (s_ishr (by decide +kernel)) (
  e_more (s_jret (by decide +kernel) rfl) (
  e_no_more))))))))))))))))))))))))))))))))
def w_J5_newCapacity_0f7a4 : eW := e_sf 10 (e_rn tb_J5_newCapacity_0f7a4 (iL i_J5_newCapacity_0f7a4) 0 0)
theorem k_J5_newCapacity_0f7a4 : e_OK e_rf i_J5_newCapacity_0f7a4 0 0 w_J5_newCapacity_0f7a4 := k_sf (k_rn (own := RJ5) ⟨by decide +kernel, rfl⟩ st_J5_newCapacity_0f7a4)
abbrev i_J7_copyOf_9075b : eI := (yJ7_copyOf_9075b, cJ7_copyOf_9075b, 3, (some (.array .byte)), 1)
theorem cl_J7_copyOf_9075b : e_Cl i_J7_copyOf_9075b 2 := ⟨wd_484, wd_33, ⟨by decide, by decide⟩, by decide +kernel, by decide⟩
def tb_J7_copyOf_9075b : eTb := [(0, t_ldI 1 1 0), (1, t_ldO 0 1 1), (2, t_alen 2), (3, t_icn (fun a b => a = b) 14 3), (6, t_ldO 0 1 6), (13, t_aret), (14, t_ldI 1 1 14), (15, t_newA 1 15), (17, t_stO 2 1 17), (18, t_ldO 0 1 18), (19, t_push (.inl 0) 1 19), (20, t_ldO 2 1 20), (21, t_push (.inl 0) 1 21), (22, t_ldO 0 1 22), (23, t_alen 23), (24, t_ldI 1 1 24), (25, fun _ _ K lc st S bc bs => e_pI st fun b r => e_pI r fun a r => cond (Nat.ble (e_sz r) 8) (K (25 + 3) lc (.inl (if b < a then b else a) :: r) S bc bs) False), (28, t_acp 1 28), (31, t_ldO 2 1 31), (32, t_aret)]
theorem st_J7_copyOf_9075b : ∀ x ∈ tb_J7_copyOf_9075b, e_Sd e_rf RJ7 i_J7_copyOf_9075b x.1 x.2 :=
  e_more (s_iload_n (k := 1) (by decide +kernel) rfl) (
  e_more (s_aload_n (k := 0) (by decide +kernel) rfl) (
  e_more (s_alen (by decide +kernel)) (
  e_more (s_ic_ne (off := 11) (by decide +kernel) (by decide)) (
  e_more (s_aload_n (k := 0) (by decide +kernel) rfl) (
  e_more (s_aret (by decide +kernel) rfl (by first | exact Or.inl ⟨_, rfl⟩ | exact Or.inr ⟨_, rfl⟩)) (
  e_more (s_iload_n (k := 1) (by decide +kernel) rfl) (
  e_more (s_newA (t := 1) (at0 := .byte) (by decide +kernel) (by decide) rfl wd_218 (fun _ _ _ z => e_rf_b z)) (
  e_more (s_astore_n (k := 2) (by decide +kernel) rfl (by decide)) (
  e_more (s_aload_n (k := 0) (by decide +kernel) rfl) (
  e_more (s_iconst (n := 0) (v := 0) (by decide +kernel) (by decide)) (
  e_more (s_aload_n (k := 2) (by decide +kernel) rfl) (
  e_more (s_iconst (n := 0) (v := 0) (by decide +kernel) (by decide)) (
  e_more (s_aload_n (k := 0) (by decide +kernel) rfl) (
  e_more (s_alen (by decide +kernel)) (
  e_more (s_iload_n (k := 1) (by decide +kernel) rfl) (
  e_more (s_min (idx := 304) (by decide +kernel) wd_492 wd_493 wd_30 wd_494 (by decide)) (
  e_more (s_acp (t := 1) (idx := 150) (by decide +kernel) (by decide) wd_495 wd_496 wd_497 wd_34 (by decide)) (
  e_more (s_aload_n (k := 2) (by decide +kernel) rfl) (
  e_more (s_aret (by decide +kernel) rfl (by first | exact Or.inl ⟨_, rfl⟩ | exact Or.inr ⟨_, rfl⟩)) (
  e_no_more))))))))))))))))))))
def w_J7_copyOf_9075b : eW := e_rn tb_J7_copyOf_9075b (iL i_J7_copyOf_9075b) 1 70
theorem k_J7_copyOf_9075b : e_OK e_rf i_J7_copyOf_9075b 1 70 w_J7_copyOf_9075b := k_rn (own := RJ7) ⟨by decide +kernel, rfl⟩ st_J7_copyOf_9075b
abbrev i_J5_ensureCapacityInternal_d00df : eI := (yJ5_ensureCapacityInternal_d00df, cJ5_ensureCapacityInternal_d00df, 3, none, 3)
theorem cl_J5_ensureCapacityInternal_d00df : e_Cl i_J5_ensureCapacityInternal_d00df 1 := ⟨wd_468, wd_20, ⟨by decide, by decide⟩, by decide +kernel, by decide⟩
def tb_J5_ensureCapacityInternal_d00df : eTb := [(0, t_ldO 0 1 0), (1, t_getR e_rf 6 0 1), (4, t_alen 4), (5, t_ldO 0 1 5), (6, t_getI 6 1 6), (9, t_ii (fun a b => a >>> (b &&& 31)) 9), (10, t_stI 2 1 10), (11, t_ldI 1 1 11), (12, t_ldI 2 1 12), (13, t_ii (fun a b => a - b) 13), (14, t_if (fun a => a ≤ 0) 38 14), (17, t_ldO 0 1 17), (18, t_ldO 0 1 18), (19, t_getR e_rf 6 0 19), (22, t_ldO 0 1 22), (23, t_ldI 1 1 23), (24, t_call0 2 w_J5_newCapacity_0f7a4 24), (27, t_ldO 0 1 27), (28, t_getI 6 1 28), (31, t_ii (fun a b => a <<< (b &&& 31)) 31), (32, t_call 2 1 70 w_J7_copyOf_9075b 32), (35, t_putR e_rf 6 0 35), (38, t_ret)]
theorem st_J5_ensureCapacityInternal_d00df : ∀ x ∈ tb_J5_ensureCapacityInternal_d00df, e_Sd e_rf RJ5 i_J5_ensureCapacityInternal_d00df x.1 x.2 :=
  e_more (s_aload_n (k := 0) (by decide +kernel) rfl) (
  e_more (s_getR (c := 6) (j := 0) (idx := 15) (by decide +kernel) (by decide) (by decide) rfl wd_204) (
  e_more (s_alen (by decide +kernel)) (
  e_more (s_aload_n (k := 0) (by decide +kernel) rfl) (
  e_more (s_getI (c := 6) (j := 1) (idx := 22) (by decide +kernel) (by decide) (by decide) rfl wd_205) (
  e_more (s_ishr (by decide +kernel)) (
  e_more (s_istore_n (k := 2) (by decide +kernel) rfl (by decide)) (
  e_more (s_iload_n (k := 1) (by decide +kernel) rfl) (
  e_more (s_iload_n (k := 2) (by decide +kernel) rfl) (
  e_more (s_isub (by decide +kernel)) (
  e_more (s_if_le (off := 24) (by decide +kernel) (by decide)) (
  e_more (s_aload_n (k := 0) (by decide +kernel) rfl) (
  e_more (s_aload_n (k := 0) (by decide +kernel) rfl) (
  e_more (s_getR (c := 6) (j := 0) (idx := 15) (by decide +kernel) (by decide) (by decide) rfl wd_204) (
  e_more (s_aload_n (k := 0) (by decide +kernel) rfl) (
  e_more (s_iload_n (k := 1) (by decide +kernel) rfl) (
  e_more (e_call0 (s_callU (c := 6) (idx := 104) k_J5_newCapacity_0f7a4 (by decide +kernel) cl_J5_newCapacity_0f7a4 (by decide) wd_469 wd_471 wd_1114 wx_1 (by decide) (e_sf_rec rfl))) (
  e_more (s_aload_n (k := 0) (by decide +kernel) rfl) (
  e_more (s_getI (c := 6) (j := 1) (idx := 22) (by decide +kernel) (by decide) (by decide) rfl wd_205) (
  e_more (s_ishl (by decide +kernel)) (
  e_more (s_callS (idx := 108) k_J7_copyOf_9075b (by decide +kernel) cl_J7_copyOf_9075b wd_482 wd_483 (by decide)) (
  e_more (s_putR (c := 6) (j := 0) (idx := 15) (by decide +kernel) (by decide) (by decide) (by first | exact Or.inl ⟨_, rfl⟩ | exact Or.inr ⟨_, rfl⟩) (by first | exact Or.inl rfl | exact Or.inr ⟨rfl, rfl, rfl⟩) wd_204) (
  e_more (s_ret (by decide +kernel) rfl) (
  e_no_more)))))))))))))))))))))))
def w_J5_ensureCapacityInternal_d00df : eW := e_sf 10 (e_rn tb_J5_ensureCapacityInternal_d00df (iL i_J5_ensureCapacityInternal_d00df) 1 70)
theorem k_J5_ensureCapacityInternal_d00df : e_OK e_rf i_J5_ensureCapacityInternal_d00df 1 70 w_J5_ensureCapacityInternal_d00df := k_sf (k_rn (own := RJ5) ⟨by decide +kernel, rfl⟩ st_J5_ensureCapacityInternal_d00df)
/-- the same, where nothing is made -/
def w0_J5_ensureCapacityInternal_d00df : eW := e_sf 10 (e_rn tb_J5_ensureCapacityInternal_d00df (iL i_J5_ensureCapacityInternal_d00df) 0 0)
theorem k0_J5_ensureCapacityInternal_d00df : e_OK e_rf i_J5_ensureCapacityInternal_d00df 0 0 w0_J5_ensureCapacityInternal_d00df := k_sf (k_rn (own := RJ5) ⟨by decide +kernel, rfl⟩ st_J5_ensureCapacityInternal_d00df)
abbrev i_J5_isLatin1_aae02 : eI := (yJ5_isLatin1_aae02, cJ5_isLatin1_aae02, 1, (some .boolean), 0)
theorem cl_J5_isLatin1_aae02 : e_Cl i_J5_isLatin1_aae02 0 := ⟨wd_502, wd_20, ⟨by decide, by decide⟩, by decide +kernel, by decide⟩
def tb_J5_isLatin1_aae02 : eTb := [(0, t_push (.inl 1) 3 0), (3, t_if (fun a => a = 0) 17 3), (6, t_ldO 0 1 6), (7, t_getI 6 1 7), (10, t_ifn (fun a => a = 0) 17 10), (13, t_push (.inl 1) 1 13), (14, t_goto 18), (17, t_push (.inl 0) 1 17), (18, t_zret)]
theorem st_J5_isLatin1_aae02 : ∀ x ∈ tb_J5_isLatin1_aae02, e_Sd e_rf RJ5 i_J5_isLatin1_aae02 x.1 x.2 :=
  e_more (s_getCS (idx := 18) (by decide +kernel) wd_195) (
  e_more (s_if_eq (off := 14) (by decide +kernel) (by decide)) (
  e_more (s_aload_n (k := 0) (by decide +kernel) rfl) (
  e_more (s_getI (c := 6) (j := 1) (idx := 22) (by decide +kernel) (by decide) (by decide) rfl wd_205) (
  e_more (s_if_ne (off := 7) (by decide +kernel) (by decide)) (
  e_more (s_iconst (n := 1) (v := 1) (by decide +kernel) (by decide)) (
  e_more (s_goto (off := 4) (by decide +kernel) (by decide)) (
  e_more (s_iconst (n := 0) (v := 0) (by decide +kernel) (by decide)) (
  e_more (s_zret (by decide +kernel) rfl) (
  e_no_more)))))))))
def w_J5_isLatin1_aae02 : eW := e_sf 10 (e_rn tb_J5_isLatin1_aae02 (iL i_J5_isLatin1_aae02) 0 0)
theorem k_J5_isLatin1_aae02 : e_OK e_rf i_J5_isLatin1_aae02 0 0 w_J5_isLatin1_aae02 := k_sf (k_rn (own := RJ5) ⟨by decide +kernel, rfl⟩ st_J5_isLatin1_aae02)
abbrev i_J1_canEncode_fc78d : eI := (yJ1_canEncode_fc78d, cJ1_canEncode_fc78d, 1, (some .boolean), 0)
theorem cl_J1_canEncode_fc78d : e_Cl i_J1_canEncode_fc78d 1 := ⟨wd_710, wd_36, ⟨by decide, by decide⟩, by decide +kernel, by decide⟩
def tb_J1_canEncode_fc78d : eTb := [(0, t_ldI 0 1 0), (1, t_push (.inl 255) 3 1), (4, t_ic (fun a b => b < a) 11 4), (7, t_push (.inl 1) 1 7), (8, t_goto 12), (11, t_push (.inl 0) 1 11), (12, t_zret)]
theorem st_J1_canEncode_fc78d : ∀ x ∈ tb_J1_canEncode_fc78d, e_Sd e_rf RJ1 i_J1_canEncode_fc78d x.1 x.2 :=
  e_more (s_iload_n (k := 0) (by decide +kernel) rfl) (
  e_more (s_sipush (n := 255) (v := 255) (by decide +kernel) (by decide)) (
  e_more (s_ic_gt (off := 7) (by decide +kernel) (by decide)) (
  e_more (s_iconst (n := 1) (v := 1) (by decide +kernel) (by decide)) (
  e_more (s_goto (off := 4) (by decide +kernel) (by decide)) (
  e_more (s_iconst (n := 0) (v := 0) (by decide +kernel) (by decide)) (
  e_more (s_zret (by decide +kernel) rfl) (
  e_no_more)))))))
def w_J1_canEncode_fc78d : eW := e_rn tb_J1_canEncode_fc78d (iL i_J1_canEncode_fc78d) 0 0
theorem k_J1_canEncode_fc78d : e_OK e_rf i_J1_canEncode_fc78d 0 0 w_J1_canEncode_fc78d := k_rn (own := RJ1) ⟨by decide +kernel, rfl⟩ st_J1_canEncode_fc78d
abbrev i_J5_append_3fe6f : eI := (yJ5_append_3fe6f, cJ5_append_3fe6f, 2, (some (.object "java/lang/AbstractStringBuilder")), 4)
theorem cl_J5_append_3fe6f : e_Cl i_J5_append_3fe6f 1 := ⟨wd_707, wd_20, ⟨by decide, by decide⟩, by decide +kernel, by decide⟩
def tb_J5_append_3fe6f_0 : eTb := [(0, t_ldO 0 1 0), (1, t_ldO 0 1 1), (2, t_getI 6 3 2), (5, t_push (.inl 1) 1 5), (6, t_ii (fun a b => a + b) 6), (7, t_call 2 1 70 w_J5_ensureCapacityInternal_d00df 7), (10, t_ldO 0 1 10), (11, t_call0 1 w_J5_isLatin1_aae02 11), (14, t_if (fun a => a = 0) 45 14), (17, t_ldI 1 1 17), (18, t_call0 1 w_J1_canEncode_fc78d 18), (21, t_if (fun a => a = 0) 45 21), (24, t_ldO 0 1 24), (25, t_getR e_rf 6 0 25), (28, t_ldO 0 1 28), (29, t_dup 29), (30, t_getI 6 3 30), (33, t_dx1 33), (34, t_push (.inl 1) 1 34), (35, t_ii (fun a b => a + b) 35), (36, t_putI 6 3 36), (39, t_ldI 1 1 39), (40, t_i1 (fun a => .inl a.toInt8.toInt32) 40), (41, t_bast 41), (42, t_goto 75), (45, t_ldO 0 1 45), (46, t_call0 1 w_J5_isLatin1_aae02 46), (49, t_if (fun a => a = 0) 56 49), (52, t_ldO 0 1 52), (56, t_ldO 0 1 56), (57, t_getR e_rf 6 0 57), (60, t_ldO 0 1 60), (61, t_dup 61), (62, t_getI 6 3 62), (65, t_dx1 65), (66, t_push (.inl 1) 1 66), (67, t_ii (fun a b => a + b) 67), (68, t_putI 6 3 68), (71, t_ldI 1 1 71), (75, t_ldO 0 1 75)]
theorem st_J5_append_3fe6f_0 : ∀ x ∈ tb_J5_append_3fe6f_0, e_Sd e_rf RJ5 i_J5_append_3fe6f x.1 x.2 :=
  e_more (s_aload_n (k := 0) (by decide +kernel) rfl) (
  e_more (s_aload_n (k := 0) (by decide +kernel) rfl) (
  e_more (s_getI (c := 6) (j := 3) (idx := 79) (by decide +kernel) (by decide) (by decide) rfl wd_208) (
  e_more (s_iconst (n := 1) (v := 1) (by decide +kernel) (by decide)) (
  e_more (s_iadd (by decide +kernel)) (
  e_more (s_callU (c := 6) (idx := 100) k_J5_ensureCapacityInternal_d00df (by decide +kernel) cl_J5_ensureCapacityInternal_d00df (by decide) wd_465 wd_467 wd_1113 wx_0 (by decide) (e_sf_rec rfl)) (
  e_more (s_aload_n (k := 0) (by decide +kernel) rfl) (
  e_more (e_call0 (s_callU (c := 6) (idx := 83) k_J5_isLatin1_aae02 (by decide +kernel) cl_J5_isLatin1_aae02 (by decide) wd_498 wd_499 wd_500 wd_501 (by decide) (e_sf_rec rfl))) (
  e_more (s_if_eq (off := 31) (by decide +kernel) (by decide)) (
  e_more (s_iload_n (k := 1) (by decide +kernel) rfl) (
  e_more (e_call0 (s_callS (idx := 191) k_J1_canEncode_fc78d (by decide +kernel) cl_J1_canEncode_fc78d wd_708 wd_709 (by decide))) (
  e_more (s_if_eq (off := 24) (by decide +kernel) (by decide)) (
  e_more (s_aload_n (k := 0) (by decide +kernel) rfl) (
  e_more (s_getR (c := 6) (j := 0) (idx := 15) (by decide +kernel) (by decide) (by decide) rfl wd_204) (
  e_more (s_aload_n (k := 0) (by decide +kernel) rfl) (
  e_more (s_dup (by decide +kernel)) (
  e_more (s_getI (c := 6) (j := 3) (idx := 79) (by decide +kernel) (by decide) (by decide) rfl wd_208) (
  e_more (s_dx1 (by decide +kernel)) (
  e_more (s_iconst (n := 1) (v := 1) (by decide +kernel) (by decide)) (
  e_more (s_iadd (by decide +kernel)) (
  e_more (s_putI (c := 6) (j := 3) (idx := 79) (by decide +kernel) (by decide) (by decide) rfl rfl wd_208) (
  e_more (s_iload_n (k := 1) (by decide +kernel) rfl) (
  e_more (s_i2b (by decide +kernel)) (
  e_more (s_bast (by decide +kernel)) (
  e_more (s_goto (off := 33) (by decide +kernel) (by decide)) (
  e_more (s_aload_n (k := 0) (by decide +kernel) rfl) (
  e_more (e_call0 (s_callU (c := 6) (idx := 83) k_J5_isLatin1_aae02 (by decide +kernel) cl_J5_isLatin1_aae02 (by decide) wd_498 wd_499 wd_500 wd_501 (by decide) (e_sf_rec rfl))) (
  e_more (s_if_eq (off := 7) (by decide +kernel) (by decide)) (
  e_more (s_aload_n (k := 0) (by decide +kernel) rfl) (
  e_more (s_aload_n (k := 0) (by decide +kernel) rfl) (
  e_more (s_getR (c := 6) (j := 0) (idx := 15) (by decide +kernel) (by decide) (by decide) rfl wd_204) (
  e_more (s_aload_n (k := 0) (by decide +kernel) rfl) (
  e_more (s_dup (by decide +kernel)) (
  e_more (s_getI (c := 6) (j := 3) (idx := 79) (by decide +kernel) (by decide) (by decide) rfl wd_208) (
  e_more (s_dx1 (by decide +kernel)) (
  e_more (s_iconst (n := 1) (v := 1) (by decide +kernel) (by decide)) (
  e_more (s_iadd (by decide +kernel)) (
  e_more (s_putI (c := 6) (j := 3) (idx := 79) (by decide +kernel) (by decide) (by decide) rfl rfl wd_208) (
  e_more (s_iload_n (k := 1) (by decide +kernel) rfl) (
  e_more (s_aload_n (k := 0) (by decide +kernel) rfl) (
  e_no_more))))))))))))))))))))))))))))))))))))))))
def tb_J5_append_3fe6f_1 : eTb := [(76, t_aret)]
theorem st_J5_append_3fe6f_1 : ∀ x ∈ tb_J5_append_3fe6f_1, e_Sd e_rf RJ5 i_J5_append_3fe6f x.1 x.2 :=
  e_more (s_aret (by decide +kernel) rfl (by first | exact Or.inl ⟨_, rfl⟩ | exact Or.inr ⟨_, rfl⟩)) (
  e_no_more)
def tb_J5_append_3fe6f : eTb := tb_J5_append_3fe6f_0 ++ tb_J5_append_3fe6f_1
theorem st_J5_append_3fe6f : ∀ x ∈ tb_J5_append_3fe6f, e_Sd e_rf RJ5 i_J5_append_3fe6f x.1 x.2 := e_app (st_J5_append_3fe6f_0) st_J5_append_3fe6f_1
def w_J5_append_3fe6f : eW := e_sf 10 (e_rn tb_J5_append_3fe6f (iL i_J5_append_3fe6f) 1 70)
theorem k_J5_append_3fe6f : e_OK e_rf i_J5_append_3fe6f 1 70 w_J5_append_3fe6f := k_sf (k_rn (own := RJ5) ⟨by decide +kernel, rfl⟩ st_J5_append_3fe6f)
abbrev i_J4_append_cf468 : eI := (yJ4_append_cf468, cJ4_append_cf468, 2, (some (.object "java/lang/StringBuilder")), 5)
theorem cl_J4_append_cf468 : e_Cl i_J4_append_cf468 1 := ⟨wd_704, wd_21, ⟨by decide, by decide⟩, by decide +kernel, by decide⟩
def tb_J4_append_cf468 : eTb := [(0, t_ldO 0 1 0), (1, t_ldI 1 1 1), (2, t_call 2 1 70 w_J5_append_3fe6f 2), (5, t_pop 5), (6, t_ldO 0 1 6), (7, t_aret)]
theorem st_J4_append_cf468 : ∀ x ∈ tb_J4_append_cf468, e_Sd e_rf RJ4 i_J4_append_cf468 x.1 x.2 :=
  e_more (s_aload_n (k := 0) (by decide +kernel) rfl) (
  e_more (s_iload_n (k := 1) (by decide +kernel) rfl) (
  e_more (s_callSU (c := 6) (idx := 50) k_J5_append_3fe6f (by decide +kernel) cl_J5_append_3fe6f (by decide) wd_705 wd_706 wd_1119 wd_217 (by decide) (by decide) (e_sf_rec rfl)) (
  e_more (s_pop (by decide +kernel)) (
  e_more (s_aload_n (k := 0) (by decide +kernel) rfl) (
  e_more (s_aret (by decide +kernel) rfl (by first | exact Or.inl ⟨_, rfl⟩ | exact Or.inr ⟨_, rfl⟩)) (
  e_no_more))))))
def w_J4_append_cf468 : eW := e_sf 10 (e_rn tb_J4_append_cf468 (iL i_J4_append_cf468) 1 70)
theorem k_J4_append_cf468 : e_OK e_rf i_J4_append_cf468 1 70 w_J4_append_cf468 := k_sf (k_rn (own := RJ4) ⟨by decide +kernel, rfl⟩ st_J4_append_cf468)
abbrev i_J5_setLength_d00df : eI := (yJ5_setLength_d00df, cJ5_setLength_d00df, 2, none, 4)
theorem cl_J5_setLength_d00df : e_Cl i_J5_setLength_d00df 1 := ⟨wd_445, wd_20, ⟨by decide, by decide⟩, by decide +kernel, by decide⟩
def tb_J5_setLength_d00df : eTb := [(0, t_ldI 1 1 0), (1, t_if (fun a => 0 ≤ a) 13 1), (7, t_dup 7), (8, t_ldI 1 1 8), (13, t_ldO 0 1 13), (14, t_ldI 1 1 14), (15, t_call0 2 w0_J5_ensureCapacityInternal_d00df 15), (18, t_ldO 0 1 18), (19, t_getI 6 3 19), (22, t_ldI 1 1 22), (23, t_ic (fun a b => b ≤ a) 63 23), (26, t_ldO 0 1 26), (27, t_call0 1 w_J5_isLatin1_aae02 27), (30, t_if (fun a => a = 0) 48 30), (33, t_ldO 0 1 33), (34, t_getR e_rf 6 0 34), (37, t_ldO 0 1 37), (38, t_getI 6 3 38), (41, t_ldI 1 1 41), (45, t_goto 76), (48, t_ldO 0 1 48), (49, t_getR e_rf 6 0 49), (52, t_ldO 0 1 52), (53, t_getI 6 3 53), (56, t_ldI 1 1 56), (60, t_goto 76), (63, t_ldO 0 1 63), (64, t_getI 6 3 64), (67, t_ldI 1 1 67), (68, t_ic (fun a b => a ≤ b) 76 68), (71, t_ldO 0 1 71), (72, t_push (.inl 1) 1 72), (73, t_putN .boolean 6 2 73), (76, t_ldO 0 1 76), (77, t_ldI 1 1 77), (78, t_putI 6 3 78), (81, t_ret)]
theorem st_J5_setLength_d00df : ∀ x ∈ tb_J5_setLength_d00df, e_Sd e_rf RJ5 i_J5_setLength_d00df x.1 x.2 :=
  e_more (s_iload_n (k := 1) (by decide +kernel) rfl) (
  e_more (s_if_ge (off := 12) (by decide +kernel) (by decide)) (
  e_more (s_dup (by decide +kernel)) (
  e_more (s_iload_n (k := 1) (by decide +kernel) rfl) (
  e_more (s_aload_n (k := 0) (by decide +kernel) rfl) (
  e_more (s_iload_n (k := 1) (by decide +kernel) rfl) (
  e_more (e_call0 (s_callU (c := 6) (idx := 100) k0_J5_ensureCapacityInternal_d00df (by decide +kernel) cl_J5_ensureCapacityInternal_d00df (by decide) wd_465 wd_467 wd_1113 wx_0 (by decide) (e_sf_rec rfl))) (
  e_more (s_aload_n (k := 0) (by decide +kernel) rfl) (
  e_more (s_getI (c := 6) (j := 3) (idx := 79) (by decide +kernel) (by decide) (by decide) rfl wd_208) (
  e_more (s_iload_n (k := 1) (by decide +kernel) rfl) (
  e_more (s_ic_ge (off := 40) (by decide +kernel) (by decide)) (
  e_more (s_aload_n (k := 0) (by decide +kernel) rfl) (
  e_more (e_call0 (s_callU (c := 6) (idx := 83) k_J5_isLatin1_aae02 (by decide +kernel) cl_J5_isLatin1_aae02 (by decide) wd_498 wd_499 wd_500 wd_501 (by decide) (e_sf_rec rfl))) (
  e_more (s_if_eq (off := 18) (by decide +kernel) (by decide)) (
  e_more (s_aload_n (k := 0) (by decide +kernel) rfl) (
  e_more (s_getR (c := 6) (j := 0) (idx := 15) (by decide +kernel) (by decide) (by decide) rfl wd_204) (
  e_more (s_aload_n (k := 0) (by decide +kernel) rfl) (
  e_more (s_getI (c := 6) (j := 3) (idx := 79) (by decide +kernel) (by decide) (by decide) rfl wd_208) (
  e_more (s_iload_n (k := 1) (by decide +kernel) rfl) (
  e_more (s_goto (off := 31) (by decide +kernel) (by decide)) (
  e_more (s_aload_n (k := 0) (by decide +kernel) rfl) (
  e_more (s_getR (c := 6) (j := 0) (idx := 15) (by decide +kernel) (by decide) (by decide) rfl wd_204) (
  e_more (s_aload_n (k := 0) (by decide +kernel) rfl) (
  e_more (s_getI (c := 6) (j := 3) (idx := 79) (by decide +kernel) (by decide) (by decide) rfl wd_208) (
  e_more (s_iload_n (k := 1) (by decide +kernel) rfl) (
  e_more (s_goto (off := 16) (by decide +kernel) (by decide)) (
  e_more (s_aload_n (k := 0) (by decide +kernel) rfl) (
  e_more (s_getI (c := 6) (j := 3) (idx := 79) (by decide +kernel) (by decide) (by decide) rfl wd_208) (
  e_more (s_iload_n (k := 1) (by decide +kernel) rfl) (
  e_more (s_ic_le (off := 8) (by decide +kernel) (by decide)) (
  e_more (s_aload_n (k := 0) (by decide +kernel) rfl) (
  e_more (s_iconst (n := 1) (v := 1) (by decide +kernel) (by decide)) (
  e_more (s_putN (c := 6) (j := 2) (idx := 73) (by decide +kernel) (by decide) (by decide) rfl rfl rfl wd_206) (
  e_more (s_aload_n (k := 0) (by decide +kernel) rfl) (
  e_more (s_iload_n (k := 1) (by decide +kernel) rfl) (
  e_more (s_putI (c := 6) (j := 3) (idx := 79) (by decide +kernel) (by decide) (by decide) rfl rfl wd_208) (
  e_more (s_ret (by decide +kernel) rfl) (
  e_no_more)))))))))))))))))))))))))))))))))))))
def w_J5_setLength_d00df : eW := e_sf 10 (e_rn tb_J5_setLength_d00df (iL i_J5_setLength_d00df) 0 0)
theorem k_J5_setLength_d00df : e_OK e_rf i_J5_setLength_d00df 0 0 w_J5_setLength_d00df := k_sf (k_rn (own := RJ5) ⟨by decide +kernel, rfl⟩ st_J5_setLength_d00df)
abbrev i_J4_setLength_d00df : eI := (yJ4_setLength_d00df, cJ4_setLength_d00df, 2, none, 5)
theorem cl_J4_setLength_d00df : e_Cl i_J4_setLength_d00df 1 := ⟨wd_442, wd_21, ⟨by decide, by decide⟩, by decide +kernel, by decide⟩
def tb_J4_setLength_d00df : eTb := [(0, t_ldO 0 1 0), (1, t_ldI 1 1 1), (2, t_call0 2 w_J5_setLength_d00df 2), (5, t_ret)]
theorem st_J4_setLength_d00df : ∀ x ∈ tb_J4_setLength_d00df, e_Sd e_rf RJ4 i_J4_setLength_d00df x.1 x.2 :=
  e_more (s_aload_n (k := 0) (by decide +kernel) rfl) (
  e_more (s_iload_n (k := 1) (by decide +kernel) rfl) (
  e_more (e_call0 (s_callSU (c := 6) (idx := 333) k_J5_setLength_d00df (by decide +kernel) cl_J5_setLength_d00df (by decide) wd_443 wd_444 wd_1110 wd_217 (by decide) (by decide) (e_sf_rec rfl))) (
  e_more (s_ret (by decide +kernel) rfl) (
  e_no_more))))
def w_J4_setLength_d00df : eW := e_sf 10 (e_rn tb_J4_setLength_d00df (iL i_J4_setLength_d00df) 0 0)
theorem k_J4_setLength_d00df : e_OK e_rf i_J4_setLength_d00df 0 0 w_J4_setLength_d00df := k_sf (k_rn (own := RJ4) ⟨by decide +kernel, rfl⟩ st_J4_setLength_d00df)
abbrev i_J0_coder_7d493 : eI := (yJ0_coder_7d493, cJ0_coder_7d493, 1, (some .byte), 0)
theorem cl_J0_coder_7d493 : e_Cl i_J0_coder_7d493 0 := ⟨wd_536, wd_22, ⟨by decide, by decide⟩, by decide +kernel, by decide⟩
def tb_J0_coder_7d493 : eTb := [(0, t_push (.inl 1) 3 0), (3, t_if (fun a => a = 0) 13 3), (6, t_ldO 0 1 6), (7, t_getSC 7), (10, t_goto 14), (13, t_push (.inl 1) 1 13), (14, t_iret .byte)]
theorem st_J0_coder_7d493 : ∀ x ∈ tb_J0_coder_7d493, e_Sd e_rf RJ0 i_J0_coder_7d493 x.1 x.2 :=
  e_more (s_getCS (idx := 38) (by decide +kernel) wd_537) (
  e_more (s_if_eq (off := 10) (by decide +kernel) (by decide)) (
  e_more (s_aload_n (k := 0) (by decide +kernel) rfl) (
  e_more (s_getSC (idx := 15) (by decide +kernel) wd_647) (
  e_more (s_goto (off := 4) (by decide +kernel) (by decide)) (
  e_more (s_iconst (n := 1) (v := 1) (by decide +kernel) (by decide)) (
  e_more (s_iret (by decide +kernel) rfl) (
  e_no_more)))))))
def w_J0_coder_7d493 : eW := e_sl0 (e_rn tb_J0_coder_7d493 (iL i_J0_coder_7d493) 0 0)
theorem k_J0_coder_7d493 : e_OK e_rf i_J0_coder_7d493 0 0 w_J0_coder_7d493 := k_sl0 (k_rn (own := RJ0) ⟨by decide +kernel, rfl⟩ st_J0_coder_7d493)
abbrev i_J0_length_8abf5 : eI := (yJ0_length_8abf5, cJ0_length_8abf5, 1, (some .int), 1)
theorem cl_J0_length_8abf5 : e_Cl i_J0_length_8abf5 0 := ⟨wd_532, wd_22, ⟨by decide, by decide⟩, by decide +kernel, by decide⟩
def tb_J0_length_8abf5 : eTb := [(0, t_ldO 0 1 0), (1, t_getSV 1), (4, t_slen 4), (5, t_ldO 0 1 5), (6, t_call0 1 w_J0_coder_7d493 6), (9, t_ii (fun a b => a >>> (b &&& 31)) 9), (10, t_jret)]
theorem st_J0_length_8abf5 : ∀ x ∈ tb_J0_length_8abf5, e_Sd e_rf RJ0 i_J0_length_8abf5 x.1 x.2 :=
  e_more (s_aload_n (k := 0) (by decide +kernel) rfl) (
  e_more (s_getSV (idx := 9) (by decide +kernel) wd_646) (
  e_more (s_slen (by decide +kernel)) (
  e_more (s_aload_n (k := 0) (by decide +kernel) rfl) (
  e_more (e_call0 (s_callVL (idx := 335) k_J0_coder_7d493 (by decide +kernel) cl_J0_coder_7d493 rfl wd_533 wd_534 wd_535 (by decide) e_sl0_rec)) (
  e_more (s_ishr (by decide +kernel)) (
  e_more (s_jret (by decide +kernel) rfl) (
  e_no_more)))))))
def w_J0_length_8abf5 : eW := e_sl0 (e_rn tb_J0_length_8abf5 (iL i_J0_length_8abf5) 0 0)
theorem k_J0_length_8abf5 : e_OK e_rf i_J0_length_8abf5 0 0 w_J0_length_8abf5 := k_sl0 (k_rn (own := RJ0) ⟨by decide +kernel, rfl⟩ st_J0_length_8abf5)
abbrev i_J5_inflateIfNeededFor_a7421 : eI := (yJ5_inflateIfNeededFor_a7421, cJ5_inflateIfNeededFor_a7421, 2, none, 1)
theorem cl_J5_inflateIfNeededFor_a7421 : e_Cl i_J5_inflateIfNeededFor_a7421 1 := ⟨wd_545, wd_20, ⟨by decide, by decide⟩, by decide +kernel, by decide⟩
def tb_J5_inflateIfNeededFor_a7421 : eTb := [(0, t_push (.inl 1) 3 0), (3, t_if (fun a => a = 0) 21 3), (6, t_ldO 0 1 6), (7, t_getI 6 1 7), (10, t_ldO 1 1 10), (11, t_call0 1 w_J0_coder_7d493 11), (14, t_ic (fun a b => a = b) 21 14), (17, t_ldO 0 1 17), (21, t_ret)]
theorem st_J5_inflateIfNeededFor_a7421 : ∀ x ∈ tb_J5_inflateIfNeededFor_a7421, e_Sd e_rf RJ5 i_J5_inflateIfNeededFor_a7421 x.1 x.2 :=
  e_more (s_getCS (idx := 18) (by decide +kernel) wd_195) (
  e_more (s_if_eq (off := 18) (by decide +kernel) (by decide)) (
  e_more (s_aload_n (k := 0) (by decide +kernel) rfl) (
  e_more (s_getI (c := 6) (j := 1) (idx := 22) (by decide +kernel) (by decide) (by decide) rfl wd_205) (
  e_more (s_aload_n (k := 1) (by decide +kernel) rfl) (
  e_more (e_call0 (s_callVL (idx := 40) k_J0_coder_7d493 (by decide +kernel) cl_J0_coder_7d493 rfl wd_546 wd_534 wd_535 (by decide) e_sl0_rec)) (
  e_more (s_ic_eq (off := 7) (by decide +kernel) (by decide)) (
  e_more (s_aload_n (k := 0) (by decide +kernel) rfl) (
  e_more (s_ret (by decide +kernel) rfl) (
  e_no_more)))))))))
def w_J5_inflateIfNeededFor_a7421 : eW := e_sf 10 (e_rn tb_J5_inflateIfNeededFor_a7421 (iL i_J5_inflateIfNeededFor_a7421) 0 0)
theorem k_J5_inflateIfNeededFor_a7421 : e_OK e_rf i_J5_inflateIfNeededFor_a7421 0 0 w_J5_inflateIfNeededFor_a7421 := k_sf (k_rn (own := RJ5) ⟨by decide +kernel, rfl⟩ st_J5_inflateIfNeededFor_a7421)
abbrev i_J0_getBytes_840e7 : eI := (yJ0_getBytes_840e7, cJ0_getBytes_840e7, 4, none, 1)
theorem cl_J0_getBytes_840e7 : e_Cl i_J0_getBytes_840e7 3 := ⟨wd_569, wd_22, ⟨by decide, by decide⟩, by decide +kernel, by decide⟩
def tb_J0_getBytes_840e7 : eTb := [(0, t_ldO 0 1 0), (1, t_call0 1 w_J0_coder_7d493 1), (4, t_ldI 3 1 4), (5, t_icn (fun a b => a = b) 28 5), (8, t_ldO 0 1 8), (9, t_getSV 9), (12, t_push (.inl 0) 1 12), (13, t_ldO 1 1 13), (14, t_ldI 2 1 14), (15, t_ldI 3 1 15), (16, t_ii (fun a b => a <<< (b &&& 31)) 16), (17, t_ldO 0 1 17), (18, t_getSV 18), (21, t_slen 21), (22, t_acpS 22), (25, t_goto 43), (28, t_ldO 0 1 28), (29, t_getSV 29), (32, t_push (.inl 0) 1 32), (33, t_ldO 1 1 33), (34, t_ldI 2 1 34), (35, t_ldO 0 1 35), (36, t_getSV 36), (39, t_slen 39), (43, t_ret)]
theorem st_J0_getBytes_840e7 : ∀ x ∈ tb_J0_getBytes_840e7, e_Sd e_rf RJ0 i_J0_getBytes_840e7 x.1 x.2 :=
  e_more (s_aload_n (k := 0) (by decide +kernel) rfl) (
  e_more (e_call0 (s_callVL (idx := 335) k_J0_coder_7d493 (by decide +kernel) cl_J0_coder_7d493 rfl wd_533 wd_534 wd_535 (by decide) e_sl0_rec)) (
  e_more (s_iload_n (k := 3) (by decide +kernel) rfl) (
  e_more (s_ic_ne (off := 23) (by decide +kernel) (by decide)) (
  e_more (s_aload_n (k := 0) (by decide +kernel) rfl) (
  e_more (s_getSV (idx := 9) (by decide +kernel) wd_646) (
  e_more (s_iconst (n := 0) (v := 0) (by decide +kernel) (by decide)) (
  e_more (s_aload_n (k := 1) (by decide +kernel) rfl) (
  e_more (s_iload_n (k := 2) (by decide +kernel) rfl) (
  e_more (s_iload_n (k := 3) (by decide +kernel) rfl) (
  e_more (s_ishl (by decide +kernel)) (
  e_more (s_aload_n (k := 0) (by decide +kernel) rfl) (
  e_more (s_getSV (idx := 9) (by decide +kernel) wd_646) (
  e_more (s_slen (by decide +kernel)) (
  e_more (s_acpS (idx := 212) (by decide +kernel) wd_570 wd_496 wd_497 wd_34 (by decide)) (
  e_more (s_goto (off := 18) (by decide +kernel) (by decide)) (
  e_more (s_aload_n (k := 0) (by decide +kernel) rfl) (
  e_more (s_getSV (idx := 9) (by decide +kernel) wd_646) (
  e_more (s_iconst (n := 0) (v := 0) (by decide +kernel) (by decide)) (
  e_more (s_aload_n (k := 1) (by decide +kernel) rfl) (
  e_more (s_iload_n (k := 2) (by decide +kernel) rfl) (
  e_more (s_aload_n (k := 0) (by decide +kernel) rfl) (
  e_more (s_getSV (idx := 9) (by decide +kernel) wd_646) (
  e_more (s_slen (by decide +kernel)) (
  e_more (s_ret (by decide +kernel) rfl) (
  e_no_more)))))))))))))))))))))))))
def w_J0_getBytes_840e7 : eW := e_sl0 (e_rn tb_J0_getBytes_840e7 (iL i_J0_getBytes_840e7) 0 0)
theorem k_J0_getBytes_840e7 : e_OK e_rf i_J0_getBytes_840e7 0 0 w_J0_getBytes_840e7 := k_sl0 (k_rn (own := RJ0) ⟨by decide +kernel, rfl⟩ st_J0_getBytes_840e7)
abbrev i_J5_putStringAt_47b60 : eI := (yJ5_putStringAt_47b60, cJ5_putStringAt_47b60, 3, none, 2)
theorem cl_J5_putStringAt_47b60 : e_Cl i_J5_putStringAt_47b60 2 := ⟨wd_541, wd_20, ⟨by decide, by decide⟩, by decide +kernel, by decide⟩
def tb_J5_putStringAt_47b60 : eTb := [(0, t_ldO 0 1 0), (1, t_ldO 2 1 1), (2, t_call0 2 w_J5_inflateIfNeededFor_a7421 2), (5, t_ldO 2 1 5), (6, t_ldO 0 1 6), (7, t_getR e_rf 6 0 7), (10, t_ldI 1 1 10), (11, t_ldO 0 1 11), (12, t_getI 6 1 12), (15, t_call0 4 w_J0_getBytes_840e7 15), (18, t_ret)]
theorem st_J5_putStringAt_47b60 : ∀ x ∈ tb_J5_putStringAt_47b60, e_Sd e_rf RJ5 i_J5_putStringAt_47b60 x.1 x.2 :=
  e_more (s_aload_n (k := 0) (by decide +kernel) rfl) (
  e_more (s_aload_n (k := 2) (by decide +kernel) rfl) (
  e_more (e_call0 (s_callU (c := 6) (idx := 397) k_J5_inflateIfNeededFor_a7421 (by decide +kernel) cl_J5_inflateIfNeededFor_a7421 (by decide) wd_542 wd_544 wd_1116 wx_3 (by decide) (e_sf_rec rfl))) (
  e_more (s_aload_n (k := 2) (by decide +kernel) rfl) (
  e_more (s_aload_n (k := 0) (by decide +kernel) rfl) (
  e_more (s_getR (c := 6) (j := 0) (idx := 15) (by decide +kernel) (by decide) (by decide) rfl wd_204) (
  e_more (s_iload_n (k := 1) (by decide +kernel) rfl) (
  e_more (s_aload_n (k := 0) (by decide +kernel) rfl) (
  e_more (s_getI (c := 6) (j := 1) (idx := 22) (by decide +kernel) (by decide) (by decide) rfl wd_205) (
  e_more (e_call0 (s_callVL (idx := 399) k_J0_getBytes_840e7 (by decide +kernel) cl_J0_getBytes_840e7 rfl wd_566 wd_567 wd_568 (by decide) e_sl0_rec)) (
  e_more (s_ret (by decide +kernel) rfl) (
  e_no_more)))))))))))
def w_J5_putStringAt_47b60 : eW := e_sf 10 (e_rn tb_J5_putStringAt_47b60 (iL i_J5_putStringAt_47b60) 0 0)
theorem k_J5_putStringAt_47b60 : e_OK e_rf i_J5_putStringAt_47b60 0 0 w_J5_putStringAt_47b60 := k_sf (k_rn (own := RJ5) ⟨by decide +kernel, rfl⟩ st_J5_putStringAt_47b60)
abbrev i_J5_append_cf1ce : eI := (yJ5_append_cf1ce, cJ5_append_cf1ce, 3, (some (.object "java/lang/AbstractStringBuilder")), 4)
theorem cl_J5_append_cf1ce : e_Cl i_J5_append_cf1ce 1 := ⟨wd_460, wd_20, ⟨by decide, by decide⟩, by decide +kernel, by decide⟩
def tb_J5_append_cf1ce : eTb := [(0, t_ldO 1 1 0), (1, t_nonnull 9 1), (4, t_ldO 0 1 4), (8, t_aret), (9, t_ldO 1 1 9), (10, t_call0 1 w_J0_length_8abf5 10), (13, t_stI 2 1 13), (14, t_ldO 0 1 14), (15, t_ldO 0 1 15), (16, t_getI 6 3 16), (19, t_ldI 2 1 19), (20, t_ii (fun a b => a + b) 20), (21, t_call 2 1 70 w_J5_ensureCapacityInternal_d00df 21), (24, t_ldO 0 1 24), (25, t_ldO 0 1 25), (26, t_getI 6 3 26), (29, t_ldO 1 1 29), (30, t_call0 3 w_J5_putStringAt_47b60 30), (33, t_ldO 0 1 33), (34, t_dup 34), (35, t_getI 6 3 35), (38, t_ldI 2 1 38), (39, t_ii (fun a b => a + b) 39), (40, t_putI 6 3 40), (43, t_ldO 0 1 43), (44, t_aret)]
theorem st_J5_append_cf1ce : ∀ x ∈ tb_J5_append_cf1ce, e_Sd e_rf RJ5 i_J5_append_cf1ce x.1 x.2 :=
  e_more (s_aload_n (k := 1) (by decide +kernel) rfl) (
  e_more (s_ifnonnull (off := 8) (by decide +kernel) (by decide)) (
  e_more (s_aload_n (k := 0) (by decide +kernel) rfl) (
  e_more (s_aret (by decide +kernel) rfl (by first | exact Or.inl ⟨_, rfl⟩ | exact Or.inr ⟨_, rfl⟩)) (
  e_more (s_aload_n (k := 1) (by decide +kernel) rfl) (
  e_more (e_call0 (s_callVL (idx := 32) k_J0_length_8abf5 (by decide +kernel) cl_J0_length_8abf5 rfl wd_529 wd_530 wd_531 (by decide) e_sl0_rec)) (
  e_more (s_istore_n (k := 2) (by decide +kernel) rfl (by decide)) (
  e_more (s_aload_n (k := 0) (by decide +kernel) rfl) (
  e_more (s_aload_n (k := 0) (by decide +kernel) rfl) (
  e_more (s_getI (c := 6) (j := 3) (idx := 79) (by decide +kernel) (by decide) (by decide) rfl wd_208) (
  e_more (s_iload_n (k := 2) (by decide +kernel) rfl) (
  e_more (s_iadd (by decide +kernel)) (
  e_more (s_callU (c := 6) (idx := 100) k_J5_ensureCapacityInternal_d00df (by decide +kernel) cl_J5_ensureCapacityInternal_d00df (by decide) wd_465 wd_467 wd_1113 wx_0 (by decide) (e_sf_rec rfl)) (
  e_more (s_aload_n (k := 0) (by decide +kernel) rfl) (
  e_more (s_aload_n (k := 0) (by decide +kernel) rfl) (
  e_more (s_getI (c := 6) (j := 3) (idx := 79) (by decide +kernel) (by decide) (by decide) rfl wd_208) (
  e_more (s_aload_n (k := 1) (by decide +kernel) rfl) (
  e_more (e_call0 (s_callU (c := 6) (idx := 208) k_J5_putStringAt_47b60 (by decide +kernel) cl_J5_putStringAt_47b60 (by decide) wd_538 wd_540 wd_1115 wx_2 (by decide) (e_sf_rec rfl))) (
  e_more (s_aload_n (k := 0) (by decide +kernel) rfl) (
  e_more (s_dup (by decide +kernel)) (
  e_more (s_getI (c := 6) (j := 3) (idx := 79) (by decide +kernel) (by decide) (by decide) rfl wd_208) (
  e_more (s_iload_n (k := 2) (by decide +kernel) rfl) (
  e_more (s_iadd (by decide +kernel)) (
  e_more (s_putI (c := 6) (j := 3) (idx := 79) (by decide +kernel) (by decide) (by decide) rfl rfl wd_208) (
  e_more (s_aload_n (k := 0) (by decide +kernel) rfl) (
  e_more (s_aret (by decide +kernel) rfl (by first | exact Or.inl ⟨_, rfl⟩ | exact Or.inr ⟨_, rfl⟩)) (
  e_no_more))))))))))))))))))))))))))
def w_J5_append_cf1ce : eW := e_sf 10 (e_rn tb_J5_append_cf1ce (iL i_J5_append_cf1ce) 1 70)
theorem k_J5_append_cf1ce : e_OK e_rf i_J5_append_cf1ce 1 70 w_J5_append_cf1ce := k_sf (k_rn (own := RJ5) ⟨by decide +kernel, rfl⟩ st_J5_append_cf1ce)
abbrev i_J4_append_15ec4 : eI := (yJ4_append_15ec4, cJ4_append_15ec4, 2, (some (.object "java/lang/StringBuilder")), 5)
theorem cl_J4_append_15ec4 : e_Cl i_J4_append_15ec4 1 := ⟨wd_457, wd_21, ⟨by decide, by decide⟩, by decide +kernel, by decide⟩
def tb_J4_append_15ec4 : eTb := [(0, t_ldO 0 1 0), (1, t_ldO 1 1 1), (2, t_call 2 1 70 w_J5_append_cf1ce 2), (5, t_pop 5), (6, t_ldO 0 1 6), (7, t_aret)]
theorem st_J4_append_15ec4 : ∀ x ∈ tb_J4_append_15ec4, e_Sd e_rf RJ4 i_J4_append_15ec4 x.1 x.2 :=
  e_more (s_aload_n (k := 0) (by decide +kernel) rfl) (
  e_more (s_aload_n (k := 1) (by decide +kernel) rfl) (
  e_more (s_callSU (c := 6) (idx := 29) k_J5_append_cf1ce (by decide +kernel) cl_J5_append_cf1ce (by decide) wd_458 wd_459 wd_1111 wd_217 (by decide) (by decide) (e_sf_rec rfl)) (
  e_more (s_pop (by decide +kernel)) (
  e_more (s_aload_n (k := 0) (by decide +kernel) rfl) (
  e_more (s_aret (by decide +kernel) rfl (by first | exact Or.inl ⟨_, rfl⟩ | exact Or.inr ⟨_, rfl⟩)) (
  e_no_more))))))
def w_J4_append_15ec4 : eW := e_sf 10 (e_rn tb_J4_append_15ec4 (iL i_J4_append_15ec4) 1 70)
theorem k_J4_append_15ec4 : e_OK e_rf i_J4_append_15ec4 1 70 w_J4_append_15ec4 := k_sf (k_rn (own := RJ4) ⟨by decide +kernel, rfl⟩ st_J4_append_15ec4)
abbrev i_J6_stringSize_0f7a4 : eI := (yJ6_stringSize_0f7a4, cJ6_stringSize_0f7a4, 4, (some .int), 0)
theorem cl_J6_stringSize_0f7a4 : e_Cl i_J6_stringSize_0f7a4 1 := ⟨wd_581, wd_29, ⟨by decide, by decide⟩, by decide +kernel, by decide⟩
def tb_J6_stringSize_0f7a4 : eTb := [(0, t_push (.inl 1) 1 0), (1, t_stI 1 1 1), (2, t_ldI 0 1 2), (3, t_if (fun a => a < 0) 11 3), (6, t_push (.inl 0) 1 6), (7, t_stI 1 1 7), (8, t_ldI 0 1 8), (9, t_i1 (fun a => .inl (-a)) 9), (10, t_stI 0 1 10), (11, t_push (.inl (-10)) 2 11), (13, t_stI 2 1 13), (14, t_push (.inl 1) 1 14), (15, t_stI 3 1 15), (16, t_ldI 3 1 16), (17, t_push (.inl 10) 2 17), (19, t_ic (fun a b => b ≤ a) 42 19), (22, t_ldI 0 1 22), (23, t_ldI 2 1 23), (24, t_ic (fun a b => a ≤ b) 31 24), (27, t_ldI 3 1 27), (28, t_ldI 1 1 28), (29, t_ii (fun a b => a + b) 29), (30, t_jret), (31, t_push (.inl 10) 2 31), (33, t_ldI 2 1 33), (34, t_ii (fun a b => a * b) 34), (35, t_stI 2 1 35), (36, t_iinc 3 1 36), (39, t_goto 16), (42, t_push (.inl 10) 2 42), (44, t_ldI 1 1 44), (45, t_ii (fun a b => a + b) 45), (46, t_jret)]
theorem st_J6_stringSize_0f7a4 : ∀ x ∈ tb_J6_stringSize_0f7a4, e_Sd e_rf RJ6 i_J6_stringSize_0f7a4 x.1 x.2 :=
  e_more (s_iconst (n := 1) (v := 1) (by decide +kernel) (by decide)) (
  e_more (s_istore_n (k := 1) (by decide +kernel) rfl (by decide)) (
  e_more (s_iload_n (k := 0) (by decide +kernel) rfl) (
  e_more (s_if_lt (off := 8) (by decide +kernel) (by decide)) (
  e_more (s_iconst (n := 0) (v := 0) (by decide +kernel) (by decide)) (
  e_more (s_istore_n (k := 1) (by decide +kernel) rfl (by decide)) (
  e_more (s_iload_n (k := 0) (by decide +kernel) rfl) (
  e_more (s_ineg (by decide +kernel)) (
  e_more (s_istore_n (k := 0) (by decide +kernel) rfl (by decide)) (
  e_more (s_bipush (n := (-10)) (v := (-10)) (by decide +kernel) (by decide)) (
  e_more (s_istore_n (k := 2) (by decide +kernel) rfl (by decide)) (
  e_more (s_iconst (n := 1) (v := 1) (by decide +kernel) (by decide)) (
  e_more (s_istore_n (k := 3) (by decide +kernel) rfl (by decide)) (
  e_more (s_iload_n (k := 3) (by decide +kernel) rfl) (
  e_more (s_bipush (n := 10) (v := 10) (by decide +kernel) (by decide)) (
  e_more (s_ic_ge (off := 23) (by decide +kernel) (by decide)) (
  e_more (s_iload_n (k := 0) (by decide +kernel) rfl) (
  e_more (s_iload_n (k := 2) (by decide +kernel) rfl) (
  e_more (s_ic_le (off := 7) (by decide +kernel) (by decide)) (
  e_more (s_iload_n (k := 3) (by decide +kernel) rfl) (
  e_more (s_iload_n (k := 1) (by decide +kernel) rfl) (
  e_more (s_iadd (by decide +kernel)) (
  e_more (s_jret (by decide +kernel) rfl) (
  e_more (s_bipush (n := 10) (v := 10) (by decide +kernel) (by decide)) (
  e_more (s_iload_n (k := 2) (by decide +kernel) rfl) (
  e_more (s_imul (by decide +kernel)) (
  e_more (s_istore_n (k := 2) (by decide +kernel) rfl (by decide)) (
  e_more (s_iinc (z := 1) (n := 1) (by decide +kernel) (by decide) (by decide)) (
  e_more (s_goto (off := (-23)) (by decide +kernel) (by decide)) (
  e_more (s_bipush (n := 10) (v := 10) (by decide +kernel) (by decide)) (
  e_more (s_iload_n (k := 1) (by decide +kernel) rfl) (
  e_more (s_iadd (by decide +kernel)) (
  e_more (s_jret (by decide +kernel) rfl) (
  e_no_more)))))))))))))))))))))))))))))))))
def w_J6_stringSize_0f7a4 : eW := e_rn tb_J6_stringSize_0f7a4 (iL i_J6_stringSize_0f7a4) 0 0
theorem k_J6_stringSize_0f7a4 : e_OK e_rf i_J6_stringSize_0f7a4 0 0 w_J6_stringSize_0f7a4 := k_rn (own := RJ6) ⟨by decide +kernel, rfl⟩ st_J6_stringSize_0f7a4
abbrev i_J6_getChars_ba4f3 : eI := (yJ6_getChars_ba4f3, cJ6_getChars_ba4f3, 7, (some .int), 0)
theorem cl_J6_getChars_ba4f3 : e_Cl i_J6_getChars_ba4f3 3 := ⟨wd_584, wd_29, ⟨by decide, by decide⟩, by decide +kernel, by decide⟩
def tb_J6_getChars_ba4f3_0 : eTb := [(0, t_ldI 1 1 0), (1, t_stI 5 2 1), (3, t_ldI 0 1 3), (4, t_if (fun a => 0 ≤ a) 11 4), (7, t_push (.inl 1) 1 7), (8, t_goto 12), (11, t_push (.inl 0) 1 11), (12, t_stI 6 2 12), (14, t_ldI 6 2 14), (16, t_ifn (fun a => a = 0) 22 16), (19, t_ldI 0 1 19), (20, t_i1 (fun a => .inl (-a)) 20), (21, t_stI 0 1 21), (22, t_ldI 0 1 22), (23, t_push (.inl (-100)) 2 23), (25, t_ic (fun a b => b < a) 72 25), (28, t_ldI 0 1 28), (29, t_push (.inl 100) 2 29), (31, t_idv (fun a b => a / b) 31), (32, t_stI 3 1 32), (33, t_ldI 3 1 33), (34, t_push (.inl 100) 2 34), (36, t_ii (fun a b => a * b) 36), (37, t_ldI 0 1 37), (38, t_ii (fun a b => a - b) 38), (39, t_stI 4 2 39), (41, t_ldI 3 1 41), (42, t_stI 0 1 42), (43, t_ldO 2 1 43), (44, t_iinc 5 (-1) 44), (47, t_ldI 5 2 47), (49, t_push (aR 24 0) 3 49), (52, t_ldI 4 2 52), (54, t_dbald 54), (55, t_bast 55), (56, t_ldO 2 1 56), (57, t_iinc 5 (-1) 57), (60, t_ldI 5 2 60), (65, t_ldI 4 2 65), (68, t_bast 68)]
theorem st_J6_getChars_ba4f3_0 : ∀ x ∈ tb_J6_getChars_ba4f3_0, e_Sd e_rf RJ6 i_J6_getChars_ba4f3 x.1 x.2 :=
  e_more (s_iload_n (k := 1) (by decide +kernel) rfl) (
  e_more (s_istore (by decide +kernel) (by decide)) (
  e_more (s_iload_n (k := 0) (by decide +kernel) rfl) (
  e_more (s_if_ge (off := 7) (by decide +kernel) (by decide)) (
  e_more (s_iconst (n := 1) (v := 1) (by decide +kernel) (by decide)) (
  e_more (s_goto (off := 4) (by decide +kernel) (by decide)) (
  e_more (s_iconst (n := 0) (v := 0) (by decide +kernel) (by decide)) (
  e_more (s_istore (by decide +kernel) (by decide)) (
  e_more (s_iload (by decide +kernel)) (
  e_more (s_if_ne (off := 6) (by decide +kernel) (by decide)) (
  e_more (s_iload_n (k := 0) (by decide +kernel) rfl) (
  e_more (s_ineg (by decide +kernel)) (
  e_more (s_istore_n (k := 0) (by decide +kernel) rfl (by decide)) (
  e_more (s_iload_n (k := 0) (by decide +kernel) rfl) (
  e_more (s_bipush (n := (-100)) (v := (-100)) (by decide +kernel) (by decide)) (
  e_more (s_ic_gt (off := 47) (by decide +kernel) (by decide)) (
  e_more (s_iload_n (k := 0) (by decide +kernel) rfl) (
  e_more (s_bipush (n := 100) (v := 100) (by decide +kernel) (by decide)) (
  e_more (s_idiv (by decide +kernel)) (
  e_more (s_istore_n (k := 3) (by decide +kernel) rfl (by decide)) (
  e_more (s_iload_n (k := 3) (by decide +kernel) rfl) (
  e_more (s_bipush (n := 100) (v := 100) (by decide +kernel) (by decide)) (
  e_more (s_imul (by decide +kernel)) (
  e_more (s_iload_n (k := 0) (by decide +kernel) rfl) (
  e_more (s_isub (by decide +kernel)) (
  e_more (s_istore (by decide +kernel) (by decide)) (
  e_more (s_iload_n (k := 3) (by decide +kernel) rfl) (
  e_more (s_istore_n (k := 0) (by decide +kernel) rfl (by decide)) (
  e_more (s_aload_n (k := 2) (by decide +kernel) rfl) (
  e_more (s_iinc (z := (-1)) (n := (-1)) (by decide +kernel) (by decide) (by decide)) (
  e_more (s_iload (by decide +kernel)) (
  e_more (s_getDO (idx := 83) (by decide +kernel) wd_585) (
  e_more (s_iload (by decide +kernel)) (
  e_more (s_dbald (by decide +kernel)) (
  e_more (s_bast (by decide +kernel)) (
  e_more (s_aload_n (k := 2) (by decide +kernel) rfl) (
  e_more (s_iinc (z := (-1)) (n := (-1)) (by decide +kernel) (by decide) (by decide)) (
  e_more (s_iload (by decide +kernel)) (
  e_more (s_iload (by decide +kernel)) (
  e_more (s_bast (by decide +kernel)) (
  e_no_more))))))))))))))))))))))))))))))))))))))))
def tb_J6_getChars_ba4f3_1 : eTb := [(69, t_goto 22), (72, t_ldO 2 1 72), (73, t_iinc 5 (-1) 73), (76, t_ldI 5 2 76), (78, t_push (aR 24 0) 3 78), (81, t_ldI 0 1 81), (82, t_i1 (fun a => .inl (-a)) 82), (83, t_dbald 83), (84, t_bast 84), (85, t_ldI 0 1 85), (86, t_push (.inl (-9)) 2 86), (88, t_ic (fun a b => b ≤ a) 104 88), (91, t_ldO 2 1 91), (92, t_iinc 5 (-1) 92), (95, t_ldI 5 2 95), (100, t_ldI 0 1 100), (101, t_i1 (fun a => .inl (-a)) 101), (103, t_bast 103), (104, t_ldI 6 2 104), (106, t_if (fun a => a = 0) 118 106), (109, t_ldO 2 1 109), (110, t_iinc 5 (-1) 110), (113, t_ldI 5 2 113), (115, t_push (.inl 45) 2 115), (117, t_bast 117), (118, t_ldI 5 2 118), (120, t_jret)]
theorem st_J6_getChars_ba4f3_1 : ∀ x ∈ tb_J6_getChars_ba4f3_1, e_Sd e_rf RJ6 i_J6_getChars_ba4f3 x.1 x.2 :=
  e_more (s_goto (off := (-47)) (by decide +kernel) (by decide)) (
  e_more (s_aload_n (k := 2) (by decide +kernel) rfl) (
  e_more (s_iinc (z := (-1)) (n := (-1)) (by decide +kernel) (by decide) (by decide)) (
  e_more (s_iload (by decide +kernel)) (
  e_more (s_getDO (idx := 83) (by decide +kernel) wd_585) (
  e_more (s_iload_n (k := 0) (by decide +kernel) rfl) (
  e_more (s_ineg (by decide +kernel)) (
  e_more (s_dbald (by decide +kernel)) (
  e_more (s_bast (by decide +kernel)) (
  e_more (s_iload_n (k := 0) (by decide +kernel) rfl) (
  e_more (s_bipush (n := (-9)) (v := (-9)) (by decide +kernel) (by decide)) (
  e_more (s_ic_ge (off := 16) (by decide +kernel) (by decide)) (
  e_more (s_aload_n (k := 2) (by decide +kernel) rfl) (
  e_more (s_iinc (z := (-1)) (n := (-1)) (by decide +kernel) (by decide) (by decide)) (
  e_more (s_iload (by decide +kernel)) (
  e_more (s_iload_n (k := 0) (by decide +kernel) rfl) (
  e_more (s_ineg (by decide +kernel)) (
  e_more (s_bast (by decide +kernel)) (
  e_more (s_iload (by decide +kernel)) (
  e_more (s_if_eq (off := 12) (by decide +kernel) (by decide)) (
  e_more (s_aload_n (k := 2) (by decide +kernel) rfl) (
  e_more (s_iinc (z := (-1)) (n := (-1)) (by decide +kernel) (by decide) (by decide)) (
  e_more (s_iload (by decide +kernel)) (
  e_more (s_bipush (n := 45) (v := 45) (by decide +kernel) (by decide)) (
  e_more (s_bast (by decide +kernel)) (
  e_more (s_iload (by decide +kernel)) (
  e_more (s_jret (by decide +kernel) rfl) (
  e_no_more)))))))))))))))))))))))))))
def tb_J6_getChars_ba4f3 : eTb := tb_J6_getChars_ba4f3_0 ++ tb_J6_getChars_ba4f3_1
theorem st_J6_getChars_ba4f3 : ∀ x ∈ tb_J6_getChars_ba4f3, e_Sd e_rf RJ6 i_J6_getChars_ba4f3 x.1 x.2 := e_app (st_J6_getChars_ba4f3_0) st_J6_getChars_ba4f3_1
def w_J6_getChars_ba4f3 : eW := e_rn tb_J6_getChars_ba4f3 (iL i_J6_getChars_ba4f3) 0 0
theorem k_J6_getChars_ba4f3 : e_OK e_rf i_J6_getChars_ba4f3 0 0 w_J6_getChars_ba4f3 := k_rn (own := RJ6) ⟨by decide +kernel, rfl⟩ st_J6_getChars_ba4f3
abbrev i_J5_append_c97b9 : eI := (yJ5_append_c97b9, cJ5_append_c97b9, 4, (some (.object "java/lang/AbstractStringBuilder")), 4)
theorem cl_J5_append_c97b9 : e_Cl i_J5_append_c97b9 1 := ⟨wd_578, wd_20, ⟨by decide, by decide⟩, by decide +kernel, by decide⟩
def tb_J5_append_c97b9 : eTb := [(0, t_ldO 0 1 0), (1, t_getI 6 3 1), (4, t_stI 2 1 4), (5, t_ldI 2 1 5), (6, t_ldI 1 1 6), (7, t_call0 1 w_J6_stringSize_0f7a4 7), (10, t_ii (fun a b => a + b) 10), (11, t_stI 3 1 11), (12, t_ldO 0 1 12), (13, t_ldI 3 1 13), (14, t_call 2 1 70 w_J5_ensureCapacityInternal_d00df 14), (17, t_ldO 0 1 17), (18, t_call0 1 w_J5_isLatin1_aae02 18), (21, t_if (fun a => a = 0) 37 21), (24, t_ldI 1 1 24), (25, t_ldI 3 1 25), (26, t_ldO 0 1 26), (27, t_getR e_rf 6 0 27), (30, t_call0 3 w_J6_getChars_ba4f3 30), (33, t_pop 33), (34, t_goto 48), (37, t_ldI 1 1 37), (38, t_ldI 2 1 38), (39, t_ldI 3 1 39), (40, t_ldO 0 1 40), (41, t_getR e_rf 6 0 41), (47, t_pop 47), (48, t_ldO 0 1 48), (49, t_ldI 3 1 49), (50, t_putI 6 3 50), (53, t_ldO 0 1 53), (54, t_aret)]
theorem st_J5_append_c97b9 : ∀ x ∈ tb_J5_append_c97b9, e_Sd e_rf RJ5 i_J5_append_c97b9 x.1 x.2 :=
  e_more (s_aload_n (k := 0) (by decide +kernel) rfl) (
  e_more (s_getI (c := 6) (j := 3) (idx := 79) (by decide +kernel) (by decide) (by decide) rfl wd_208) (
  e_more (s_istore_n (k := 2) (by decide +kernel) rfl (by decide)) (
  e_more (s_iload_n (k := 2) (by decide +kernel) rfl) (
  e_more (s_iload_n (k := 1) (by decide +kernel) rfl) (
  e_more (e_call0 (s_callS (idx := 245) k_J6_stringSize_0f7a4 (by decide +kernel) cl_J6_stringSize_0f7a4 wd_579 wd_580 (by decide))) (
  e_more (s_iadd (by decide +kernel)) (
  e_more (s_istore_n (k := 3) (by decide +kernel) rfl (by decide)) (
  e_more (s_aload_n (k := 0) (by decide +kernel) rfl) (
  e_more (s_iload_n (k := 3) (by decide +kernel) rfl) (
  e_more (s_callU (c := 6) (idx := 100) k_J5_ensureCapacityInternal_d00df (by decide +kernel) cl_J5_ensureCapacityInternal_d00df (by decide) wd_465 wd_467 wd_1113 wx_0 (by decide) (e_sf_rec rfl)) (
  e_more (s_aload_n (k := 0) (by decide +kernel) rfl) (
  e_more (e_call0 (s_callU (c := 6) (idx := 83) k_J5_isLatin1_aae02 (by decide +kernel) cl_J5_isLatin1_aae02 (by decide) wd_498 wd_499 wd_500 wd_501 (by decide) (e_sf_rec rfl))) (
  e_more (s_if_eq (off := 16) (by decide +kernel) (by decide)) (
  e_more (s_iload_n (k := 1) (by decide +kernel) rfl) (
  e_more (s_iload_n (k := 3) (by decide +kernel) rfl) (
  e_more (s_aload_n (k := 0) (by decide +kernel) rfl) (
  e_more (s_getR (c := 6) (j := 0) (idx := 15) (by decide +kernel) (by decide) (by decide) rfl wd_204) (
  e_more (e_call0 (s_callS (idx := 248) k_J6_getChars_ba4f3 (by decide +kernel) cl_J6_getChars_ba4f3 wd_582 wd_583 (by decide))) (
  e_more (s_pop (by decide +kernel)) (
  e_more (s_goto (off := 14) (by decide +kernel) (by decide)) (
  e_more (s_iload_n (k := 1) (by decide +kernel) rfl) (
  e_more (s_iload_n (k := 2) (by decide +kernel) rfl) (
  e_more (s_iload_n (k := 3) (by decide +kernel) rfl) (
  e_more (s_aload_n (k := 0) (by decide +kernel) rfl) (
  e_more (s_getR (c := 6) (j := 0) (idx := 15) (by decide +kernel) (by decide) (by decide) rfl wd_204) (
  e_more (s_pop (by decide +kernel)) (
  e_more (s_aload_n (k := 0) (by decide +kernel) rfl) (
  e_more (s_iload_n (k := 3) (by decide +kernel) rfl) (
  e_more (s_putI (c := 6) (j := 3) (idx := 79) (by decide +kernel) (by decide) (by decide) rfl rfl wd_208) (
  e_more (s_aload_n (k := 0) (by decide +kernel) rfl) (
  e_more (s_aret (by decide +kernel) rfl (by first | exact Or.inl ⟨_, rfl⟩ | exact Or.inr ⟨_, rfl⟩)) (
  e_no_more))))))))))))))))))))))))))))))))
def w_J5_append_c97b9 : eW := e_sf 10 (e_rn tb_J5_append_c97b9 (iL i_J5_append_c97b9) 1 70)
theorem k_J5_append_c97b9 : e_OK e_rf i_J5_append_c97b9 1 70 w_J5_append_c97b9 := k_sf (k_rn (own := RJ5) ⟨by decide +kernel, rfl⟩ st_J5_append_c97b9)
abbrev i_J4_append_bf812 : eI := (yJ4_append_bf812, cJ4_append_bf812, 2, (some (.object "java/lang/StringBuilder")), 5)
theorem cl_J4_append_bf812 : e_Cl i_J4_append_bf812 1 := ⟨wd_575, wd_21, ⟨by decide, by decide⟩, by decide +kernel, by decide⟩
def tb_J4_append_bf812 : eTb := [(0, t_ldO 0 1 0), (1, t_ldI 1 1 1), (2, t_call 2 1 70 w_J5_append_c97b9 2), (5, t_pop 5), (6, t_ldO 0 1 6), (7, t_aret)]
theorem st_J4_append_bf812 : ∀ x ∈ tb_J4_append_bf812, e_Sd e_rf RJ4 i_J4_append_bf812 x.1 x.2 :=
  e_more (s_aload_n (k := 0) (by decide +kernel) rfl) (
  e_more (s_iload_n (k := 1) (by decide +kernel) rfl) (
  e_more (s_callSU (c := 6) (idx := 53) k_J5_append_c97b9 (by decide +kernel) cl_J5_append_c97b9 (by decide) wd_576 wd_577 wd_1118 wd_217 (by decide) (by decide) (e_sf_rec rfl)) (
  e_more (s_pop (by decide +kernel)) (
  e_more (s_aload_n (k := 0) (by decide +kernel) rfl) (
  e_more (s_aret (by decide +kernel) rfl (by first | exact Or.inl ⟨_, rfl⟩ | exact Or.inr ⟨_, rfl⟩)) (
  e_no_more))))))
def w_J4_append_bf812 : eW := e_sf 10 (e_rn tb_J4_append_bf812 (iL i_J4_append_bf812) 1 70)
theorem k_J4_append_bf812 : e_OK e_rf i_J4_append_bf812 1 70 w_J4_append_bf812 := k_sf (k_rn (own := RJ4) ⟨by decide +kernel, rfl⟩ st_J4_append_bf812)
abbrev i_J3_checkIndex_8e157 : eI := (yJ3_checkIndex_8e157, cJ3_checkIndex_8e157, 3, (some .int), 0)
theorem cl_J3_checkIndex_8e157 : e_Cl i_J3_checkIndex_8e157 3 := ⟨wd_722, wd_35, ⟨by decide, by decide⟩, by decide +kernel, by decide⟩
def tb_J3_checkIndex_8e157 : eTb := [(0, t_ldI 0 1 0), (1, t_if (fun a => a < 0) 9 1), (4, t_ldI 0 1 4), (5, t_ldI 1 1 5), (6, t_ic (fun a b => a < b) 16 6), (9, t_ldO 2 1 9), (10, t_ldI 0 1 10), (11, t_ldI 1 1 11), (16, t_ldI 0 1 16), (17, t_jret)]
theorem st_J3_checkIndex_8e157 : ∀ x ∈ tb_J3_checkIndex_8e157, e_Sd e_rf RJ3 i_J3_checkIndex_8e157 x.1 x.2 :=
  e_more (s_iload_n (k := 0) (by decide +kernel) rfl) (
  e_more (s_if_lt (off := 8) (by decide +kernel) (by decide)) (
  e_more (s_iload_n (k := 0) (by decide +kernel) rfl) (
  e_more (s_iload_n (k := 1) (by decide +kernel) rfl) (
  e_more (s_ic_lt (off := 10) (by decide +kernel) (by decide)) (
  e_more (s_aload_n (k := 2) (by decide +kernel) rfl) (
  e_more (s_iload_n (k := 0) (by decide +kernel) rfl) (
  e_more (s_iload_n (k := 1) (by decide +kernel) rfl) (
  e_more (s_iload_n (k := 0) (by decide +kernel) rfl) (
  e_more (s_jret (by decide +kernel) rfl) (
  e_no_more))))))))))
def w_J3_checkIndex_8e157 : eW := e_rn tb_J3_checkIndex_8e157 (iL i_J3_checkIndex_8e157) 0 0
theorem k_J3_checkIndex_8e157 : e_OK e_rf i_J3_checkIndex_8e157 0 0 w_J3_checkIndex_8e157 := k_rn (own := RJ3) ⟨by decide +kernel, rfl⟩ st_J3_checkIndex_8e157
abbrev i_J0_checkIndex_df160 : eI := (yJ0_checkIndex_df160, cJ0_checkIndex_df160, 2, none, 1)
theorem cl_J0_checkIndex_df160 : e_Cl i_J0_checkIndex_df160 2 := ⟨wd_719, wd_22, ⟨by decide, by decide⟩, by decide +kernel, by decide⟩
def tb_J0_checkIndex_df160 : eTb := [(0, t_ldI 0 1 0), (1, t_ldI 1 1 1), (2, t_getF 2), (5, t_call0 3 w_J3_checkIndex_8e157 5), (8, t_pop 8), (9, t_ret)]
theorem st_J0_checkIndex_df160 : ∀ x ∈ tb_J0_checkIndex_df160, e_Sd e_rf RJ0 i_J0_checkIndex_df160 x.1 x.2 :=
  e_more (s_iload_n (k := 0) (by decide +kernel) rfl) (
  e_more (s_iload_n (k := 1) (by decide +kernel) rfl) (
  e_more (s_getF (idx := 1053) (by decide +kernel) wd_515) (
  e_more (e_call0 (s_callS (idx := 1059) k_J3_checkIndex_8e157 (by decide +kernel) cl_J3_checkIndex_8e157 wd_720 wd_721 (by decide))) (
  e_more (s_pop (by decide +kernel)) (
  e_more (s_ret (by decide +kernel) rfl) (
  e_no_more))))))
def w_J0_checkIndex_df160 : eW := e_rn tb_J0_checkIndex_df160 (iL i_J0_checkIndex_df160) 0 0
theorem k_J0_checkIndex_df160 : e_OK e_rf i_J0_checkIndex_df160 0 0 w_J0_checkIndex_df160 := k_rn (own := RJ0) ⟨by decide +kernel, rfl⟩ st_J0_checkIndex_df160
abbrev i_J5_charAt_5068e : eI := (yJ5_charAt_5068e, cJ5_charAt_5068e, 5, (some .char), 2)
theorem cl_J5_charAt_5068e : e_Cl i_J5_charAt_5068e 1 := ⟨wd_739, wd_20, ⟨by decide, by decide⟩, by decide +kernel, by decide⟩
def tb_J5_charAt_5068e : eTb := [(0, t_ldO 0 1 0), (1, t_getI 6 1 1), (4, t_stI 2 1 4), (5, t_ldO 0 1 5), (6, t_getR e_rf 6 0 6), (9, t_stO 3 1 9), (10, t_ldO 0 1 10), (11, t_getI 6 3 11), (14, t_ldO 3 1 14), (15, t_alen 15), (16, t_ldI 2 1 16), (17, t_ii (fun a b => a >>> (b &&& 31)) 17), (18, fun _ _ K lc st S bc bs => e_pI st fun b r => e_pI r fun a r => cond (Nat.ble (e_sz r) 8) (K (18 + 3) lc (.inl (if b < a then b else a) :: r) S bc bs) False), (21, t_stI 4 2 21), (23, t_ldI 1 1 23), (24, t_ldI 4 2 24), (26, t_call0 2 w_J0_checkIndex_df160 26), (29, t_ldI 2 1 29), (30, t_ifn (fun a => a = 0) 42 30), (33, t_ldO 3 1 33), (34, t_ldI 1 1 34), (35, t_bald 35), (36, t_push (.inl 255) 3 36), (39, t_ii (fun a b => a &&& b) 39), (40, t_i1 (fun a => .inl (a.toUInt32 % 65536).toInt32) 40), (41, t_iret .char), (42, t_ldO 3 1 42), (43, t_ldI 1 1 43), (47, t_iret .char)]
theorem st_J5_charAt_5068e : ∀ x ∈ tb_J5_charAt_5068e, e_Sd e_rf RJ5 i_J5_charAt_5068e x.1 x.2 :=
  e_more (s_aload_n (k := 0) (by decide +kernel) rfl) (
  e_more (s_getI (c := 6) (j := 1) (idx := 22) (by decide +kernel) (by decide) (by decide) rfl wd_205) (
  e_more (s_istore_n (k := 2) (by decide +kernel) rfl (by decide)) (
  e_more (s_aload_n (k := 0) (by decide +kernel) rfl) (
  e_more (s_getR (c := 6) (j := 0) (idx := 15) (by decide +kernel) (by decide) (by decide) rfl wd_204) (
  e_more (s_astore_n (k := 3) (by decide +kernel) rfl (by decide)) (
  e_more (s_aload_n (k := 0) (by decide +kernel) rfl) (
  e_more (s_getI (c := 6) (j := 3) (idx := 79) (by decide +kernel) (by decide) (by decide) rfl wd_208) (
  e_more (s_aload_n (k := 3) (by decide +kernel) rfl) (
  e_more (s_alen (by decide +kernel)) (
  e_more (s_iload_n (k := 2) (by decide +kernel) rfl) (
  e_more (s_ishr (by decide +kernel)) (
  e_more (s_min (idx := 138) (by decide +kernel) wd_740 wd_493 wd_30 wd_494 (by decide)) (
  e_more (s_istore (by decide +kernel) (by decide)) (
  e_more (s_iload_n (k := 1) (by decide +kernel) rfl) (
  e_more (s_iload (by decide +kernel)) (
  e_more (e_call0 (s_callS (idx := 144) k_J0_checkIndex_df160 (by decide +kernel) cl_J0_checkIndex_df160 wd_741 wd_718 (by decide))) (
  e_more (s_iload_n (k := 2) (by decide +kernel) rfl) (
  e_more (s_if_ne (off := 12) (by decide +kernel) (by decide)) (
  e_more (s_aload_n (k := 3) (by decide +kernel) rfl) (
  e_more (s_iload_n (k := 1) (by decide +kernel) rfl) (
  e_more (s_bald (by decide +kernel)) (
  e_more (s_sipush (n := 255) (v := 255) (by decide +kernel) (by decide)) (
  e_more (s_iand (by decide +kernel)) (
  e_more (s_i2c (by decide +kernel)) (
  e_more (s_iret (by decide +kernel) rfl) (
  e_more (s_aload_n (k := 3) (by decide +kernel) rfl) (
  e_more (s_iload_n (k := 1) (by decide +kernel) rfl) (
  e_more (s_iret (by decide +kernel) rfl) (
  e_no_more)))))))))))))))))))))))))))))
def w_J5_charAt_5068e : eW := e_sf 10 (e_rn tb_J5_charAt_5068e (iL i_J5_charAt_5068e) 0 0)
theorem k_J5_charAt_5068e : e_OK e_rf i_J5_charAt_5068e 0 0 w_J5_charAt_5068e := k_sf (k_rn (own := RJ5) ⟨by decide +kernel, rfl⟩ st_J5_charAt_5068e)
abbrev i_J4_charAt_5068e : eI := (yJ4_charAt_5068e, cJ4_charAt_5068e, 2, (some .char), 3)
theorem cl_J4_charAt_5068e : e_Cl i_J4_charAt_5068e 1 := ⟨wd_736, wd_21, ⟨by decide, by decide⟩, by decide +kernel, by decide⟩
def tb_J4_charAt_5068e : eTb := [(0, t_ldO 0 1 0), (1, t_ldI 1 1 1), (2, t_call0 2 w_J5_charAt_5068e 2), (5, t_iret .char)]
theorem st_J4_charAt_5068e : ∀ x ∈ tb_J4_charAt_5068e, e_Sd e_rf RJ4 i_J4_charAt_5068e x.1 x.2 :=
  e_more (s_aload_n (k := 0) (by decide +kernel) rfl) (
  e_more (s_iload_n (k := 1) (by decide +kernel) rfl) (
  e_more (e_call0 (s_callSU (c := 6) (idx := 329) k_J5_charAt_5068e (by decide +kernel) cl_J5_charAt_5068e (by decide) wd_737 wd_738 wd_1121 wd_217 (by decide) (by decide) (e_sf_rec rfl))) (
  e_more (s_iret (by decide +kernel) rfl) (
  e_no_more))))
def w_J4_charAt_5068e : eW := e_sf 10 (e_rn tb_J4_charAt_5068e (iL i_J4_charAt_5068e) 0 0)
theorem k_J4_charAt_5068e : e_OK e_rf i_J4_charAt_5068e 0 0 w_J4_charAt_5068e := k_sf (k_rn (own := RJ4) ⟨by decide +kernel, rfl⟩ st_J4_charAt_5068e)
