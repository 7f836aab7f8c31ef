/-! The wrappers of the law: tables, readings, what they come to. By program (wip/whole/q/gen79.py). Own work. -/
abbrev i_L_pupil : eI := (yL_pupil, cL_pupil, 4, (some .int), 11)
abbrev hh_L_pupil : List (Nat × Nat × Nat × Nat) := [(0, 9, 12, 13), (0, 9, 15, 15)]
theorem cl_L_pupil : e_ClH i_L_pupil hh_L_pupil 3 := ⟨wd_949, wd_72, ⟨by decide, by decide⟩, by decide +kernel, by decide⟩
def tb_L_pupil : eTb := [(0, t_ldO 2 1 0), (1, t_push (.inl 0) 1 1), (2, t_ldO 0 1 2), (3, t_ldI 1 1 3), (4, t_callX 2 1 6 x_X4_pupil (e_h2 q_IA q_IS 13 16) 4), (7, t_i1 (fun a => .inr (.inl a.toInt64)) 7), (8, t_last 8), (9, t_goto 18), (13, t_push (.inl 1) 1 13), (14, t_jret), (16, t_push (.inl 2) 1 16), (17, t_jret), (18, t_push (.inl 0) 1 18), (19, t_jret)]
theorem st_L_pupil {G : eG} (hG : gr G = e_rf) : ∀ x ∈ tb_L_pupil, e_Sh (tableOf hh_L_pupil) G RL i_L_pupil x.1 x.2 :=
  e_more (e_Sh.of (e_Sg.of (s_aload_n (k := 2) (by decide +kernel) rfl) hG)) (
  e_more (e_Sh.of (e_Sg.of (s_iconst (n := 0) (v := 0) (by decide +kernel) (by decide)) hG)) (
  e_more (e_Sh.of (e_Sg.of (s_aload_n (k := 0) (by decide +kernel) rfl) hG)) (
  e_more (e_Sh.of (e_Sg.of (s_iload_n (k := 1) (by decide +kernel) rfl) hG)) (
  e_more (s_callX (c := 4) (idx := 7) hG kx_X4_pupil (by decide +kernel) cl_X4_pupil (by decide) wd_952 wd_953 wd_954 (by decide) (e_sfx_rec rfl) (fun E t h => by
    rcases e_h2_of h with ⟨rfl, rfl⟩ | ⟨rfl, rfl⟩
    · exact e_ct1 (by decide) (by decide) wd_950 (by decide +kernel) (Or.inl ⟨3, by decide +kernel, by decide, rfl⟩)
    · exact e_ct2 (by decide) wd_950 (by decide) (by decide) (by decide) wd_951 (by decide +kernel) (Or.inl ⟨3, by decide +kernel, by decide, rfl⟩))) (
  e_more (e_Sh.of (e_Sg.of (s_i2l (by decide +kernel)) hG)) (
  e_more (e_Sh.of (e_Sg.of (s_last (by decide +kernel)) hG)) (
  e_more (e_Sh.of (e_Sg.of (s_goto (off := 9) (by decide +kernel) (by decide)) hG)) (
  e_more (e_Sh.of (e_Sg.of (s_iconst (n := 1) (v := 1) (by decide +kernel) (by decide)) hG)) (
  e_more (e_Sh.of (e_Sg.of (s_jret (by decide +kernel) rfl) hG)) (
  e_more (e_Sh.of (e_Sg.of (s_iconst (n := 2) (v := 2) (by decide +kernel) (by decide)) hG)) (
  e_more (e_Sh.of (e_Sg.of (s_jret (by decide +kernel) rfl) hG)) (
  e_more (e_Sh.of (e_Sg.of (s_iconst (n := 0) (v := 0) (by decide +kernel) (by decide)) hG)) (
  e_more (e_Sh.of (e_Sg.of (s_jret (by decide +kernel) rfl) hG)) (
  e_no_more))))))))))))))
def w_L_pupil : eW := e_rn tb_L_pupil (iL i_L_pupil) 1 6
theorem k_L_pupil : e_OH e_rf i_L_pupil hh_L_pupil 1 6 w_L_pupil := k_hh (own := RL) ⟨by decide +kernel, rfl⟩ (by decide) (fun _ hG => st_L_pupil hG)
theorem q_L_pupil {S : eM} {post : eQ} {x : Int32} (h : ∀ (P : eQ) (X : eX), (∀ S2, post (some (aI 1)) S2 → X q_IA S2) → (∀ S2, post (some (aI 2)) S2 → X q_IS S2) → (∀ r S2, post (some (aI 0)) (sL S2 15 0 0 r.toInt64) → P (some (aI r)) S2) → x_X4_pupil [aR 0 0, aI x] S P X) : w_L_pupil [aR 0 0, aI x, aR 15 0] S post := by
  refine e_walk (stops := []) 20 ?_
  exact ⟨Nat.le_refl _, Nat.le_refl _, h _ _ (fun S2 hp => ⟨13, e_h2_a, hp⟩) (fun S2 hp => ⟨16, e_h2_b (by decide), hp⟩) (fun r S2 hp => ⟨e_in15, hp⟩)⟩
abbrev i_L_instrument : eI := (yL_instrument, cL_instrument, 4, (some .int), 11)
abbrev hh_L_instrument : List (Nat × Nat × Nat × Nat) := [(0, 9, 12, 13), (0, 9, 15, 15)]
theorem cl_L_instrument : e_ClH i_L_instrument hh_L_instrument 3 := ⟨wd_993, wd_72, ⟨by decide, by decide⟩, by decide +kernel, by decide⟩
def tb_L_instrument : eTb := [(0, t_ldO 2 1 0), (1, t_push (.inl 0) 1 1), (2, t_ldO 0 1 2), (3, t_ldI 1 1 3), (4, t_callX 2 1 6 x_X4_instrument (e_h2 q_IA q_IS 13 16) 4), (7, t_i1 (fun a => .inr (.inl a.toInt64)) 7), (8, t_last 8), (9, t_goto 18), (13, t_push (.inl 1) 1 13), (14, t_jret), (16, t_push (.inl 2) 1 16), (17, t_jret), (18, t_push (.inl 0) 1 18), (19, t_jret)]
theorem st_L_instrument {G : eG} (hG : gr G = e_rf) : ∀ x ∈ tb_L_instrument, e_Sh (tableOf hh_L_instrument) G RL i_L_instrument x.1 x.2 :=
  e_more (e_Sh.of (e_Sg.of (s_aload_n (k := 2) (by decide +kernel) rfl) hG)) (
  e_more (e_Sh.of (e_Sg.of (s_iconst (n := 0) (v := 0) (by decide +kernel) (by decide)) hG)) (
  e_more (e_Sh.of (e_Sg.of (s_aload_n (k := 0) (by decide +kernel) rfl) hG)) (
  e_more (e_Sh.of (e_Sg.of (s_iload_n (k := 1) (by decide +kernel) rfl) hG)) (
  e_more (s_callX (c := 4) (idx := 17) hG kx_X4_instrument (by decide +kernel) cl_X4_instrument (by decide) wd_994 wd_995 wd_996 (by decide) (e_sfx_rec rfl) (fun E t h => by
    rcases e_h2_of h with ⟨rfl, rfl⟩ | ⟨rfl, rfl⟩
    · exact e_ct1 (by decide) (by decide) wd_950 (by decide +kernel) (Or.inl ⟨3, by decide +kernel, by decide, rfl⟩)
    · exact e_ct2 (by decide) wd_950 (by decide) (by decide) (by decide) wd_951 (by decide +kernel) (Or.inl ⟨3, by decide +kernel, by decide, rfl⟩))) (
  e_more (e_Sh.of (e_Sg.of (s_i2l (by decide +kernel)) hG)) (
  e_more (e_Sh.of (e_Sg.of (s_last (by decide +kernel)) hG)) (
  e_more (e_Sh.of (e_Sg.of (s_goto (off := 9) (by decide +kernel) (by decide)) hG)) (
  e_more (e_Sh.of (e_Sg.of (s_iconst (n := 1) (v := 1) (by decide +kernel) (by decide)) hG)) (
  e_more (e_Sh.of (e_Sg.of (s_jret (by decide +kernel) rfl) hG)) (
  e_more (e_Sh.of (e_Sg.of (s_iconst (n := 2) (v := 2) (by decide +kernel) (by decide)) hG)) (
  e_more (e_Sh.of (e_Sg.of (s_jret (by decide +kernel) rfl) hG)) (
  e_more (e_Sh.of (e_Sg.of (s_iconst (n := 0) (v := 0) (by decide +kernel) (by decide)) hG)) (
  e_more (e_Sh.of (e_Sg.of (s_jret (by decide +kernel) rfl) hG)) (
  e_no_more))))))))))))))
def w_L_instrument : eW := e_rn tb_L_instrument (iL i_L_instrument) 1 6
theorem k_L_instrument : e_OH e_rf i_L_instrument hh_L_instrument 1 6 w_L_instrument := k_hh (own := RL) ⟨by decide +kernel, rfl⟩ (by decide) (fun _ hG => st_L_instrument hG)
theorem q_L_instrument {S : eM} {post : eQ} {x : Int32} (h : ∀ (P : eQ) (X : eX), (∀ S2, post (some (aI 1)) S2 → X q_IA S2) → (∀ S2, post (some (aI 2)) S2 → X q_IS S2) → (∀ r S2, post (some (aI 0)) (sL S2 15 0 0 r.toInt64) → P (some (aI r)) S2) → x_X4_instrument [aR 0 0, aI x] S P X) : w_L_instrument [aR 0 0, aI x, aR 15 0] S post := by
  refine e_walk (stops := []) 20 ?_
  exact ⟨Nat.le_refl _, Nat.le_refl _, h _ _ (fun S2 hp => ⟨13, e_h2_a, hp⟩) (fun S2 hp => ⟨16, e_h2_b (by decide), hp⟩) (fun r S2 hp => ⟨e_in15, hp⟩)⟩
abbrev i_L_lend : eI := (yL_lend, cL_lend, 5, (some .int), 11)
abbrev hh_L_lend : List (Nat × Nat × Nat × Nat) := [(0, 10, 13, 24), (0, 10, 17, 15)]
theorem cl_L_lend : e_ClH i_L_lend hh_L_lend 4 := ⟨wd_1014, wd_72, ⟨by decide, by decide⟩, by decide +kernel, by decide⟩
def tb_L_lend : eTb := [(0, t_ldO 3 1 0), (1, t_push (.inl 0) 1 1), (2, t_ldO 0 1 2), (3, t_ldI 1 1 3), (4, t_ldI 2 1 4), (5, t_callX 3 1 6 x_X4_lend (e_h2 q_IO q_IS 15 19) 5), (8, t_i1 (fun a => .inr (.inl a.toInt64)) 8), (9, t_last 9), (10, t_goto 21), (15, t_push (.inl 1) 1 15), (16, t_jret), (19, t_push (.inl 2) 1 19), (20, t_jret), (21, t_push (.inl 0) 1 21), (22, t_jret)]
theorem st_L_lend {G : eG} (hG : gr G = e_rf) : ∀ x ∈ tb_L_lend, e_Sh (tableOf hh_L_lend) G RL i_L_lend x.1 x.2 :=
  e_more (e_Sh.of (e_Sg.of (s_aload_n (k := 3) (by decide +kernel) rfl) hG)) (
  e_more (e_Sh.of (e_Sg.of (s_iconst (n := 0) (v := 0) (by decide +kernel) (by decide)) hG)) (
  e_more (e_Sh.of (e_Sg.of (s_aload_n (k := 0) (by decide +kernel) rfl) hG)) (
  e_more (e_Sh.of (e_Sg.of (s_iload_n (k := 1) (by decide +kernel) rfl) hG)) (
  e_more (e_Sh.of (e_Sg.of (s_iload_n (k := 2) (by decide +kernel) rfl) hG)) (
  e_more (s_callX (c := 4) (idx := 20) hG kx_X4_lend (by decide +kernel) cl_X4_lend (by decide) wd_1016 wd_1017 wd_1018 (by decide) (e_sfx_rec rfl) (fun E t h => by
    rcases e_h2_of h with ⟨rfl, rfl⟩ | ⟨rfl, rfl⟩
    · exact e_ct1 (by decide) (by decide) wd_1015 (by decide +kernel) (Or.inr ⟨4, by decide +kernel, by decide, rfl⟩)
    · exact e_ct2 (by decide) wd_1015 (by decide) (by decide) (by decide) wd_951 (by decide +kernel) (Or.inr ⟨4, by decide +kernel, by decide, rfl⟩))) (
  e_more (e_Sh.of (e_Sg.of (s_i2l (by decide +kernel)) hG)) (
  e_more (e_Sh.of (e_Sg.of (s_last (by decide +kernel)) hG)) (
  e_more (e_Sh.of (e_Sg.of (s_goto (off := 11) (by decide +kernel) (by decide)) hG)) (
  e_more (e_Sh.of (e_Sg.of (s_iconst (n := 1) (v := 1) (by decide +kernel) (by decide)) hG)) (
  e_more (e_Sh.of (e_Sg.of (s_jret (by decide +kernel) rfl) hG)) (
  e_more (e_Sh.of (e_Sg.of (s_iconst (n := 2) (v := 2) (by decide +kernel) (by decide)) hG)) (
  e_more (e_Sh.of (e_Sg.of (s_jret (by decide +kernel) rfl) hG)) (
  e_more (e_Sh.of (e_Sg.of (s_iconst (n := 0) (v := 0) (by decide +kernel) (by decide)) hG)) (
  e_more (e_Sh.of (e_Sg.of (s_jret (by decide +kernel) rfl) hG)) (
  e_no_more)))))))))))))))
def w_L_lend : eW := e_rn tb_L_lend (iL i_L_lend) 1 6
theorem k_L_lend : e_OH e_rf i_L_lend hh_L_lend 1 6 w_L_lend := k_hh (own := RL) ⟨by decide +kernel, rfl⟩ (by decide) (fun _ hG => st_L_lend hG)
theorem q_L_lend {S : eM} {post : eQ} {x y : Int32} (h : ∀ (P : eQ) (X : eX), (∀ S2, post (some (aI 1)) S2 → X q_IO S2) → (∀ S2, post (some (aI 2)) S2 → X q_IS S2) → (∀ r S2, post (some (aI 0)) (sL S2 15 0 0 r.toInt64) → P (some (aI r)) S2) → x_X4_lend [aR 0 0, aI x, aI y] S P X) : w_L_lend [aR 0 0, aI x, aI y, aR 15 0] S post := by
  refine e_walk (stops := []) 20 ?_
  exact ⟨Nat.le_refl _, Nat.le_refl _, h _ _ (fun S2 hp => ⟨15, e_h2_a, hp⟩) (fun S2 hp => ⟨19, e_h2_b (by decide), hp⟩) (fun r S2 hp => ⟨e_in15, hp⟩)⟩
abbrev i_L_back : eI := (yL_back, cL_back, 4, (some .int), 11)
abbrev hh_L_back : List (Nat × Nat × Nat × Nat) := [(0, 9, 12, 24), (0, 9, 15, 15)]
theorem cl_L_back : e_ClH i_L_back hh_L_back 3 := ⟨wd_1047, wd_72, ⟨by decide, by decide⟩, by decide +kernel, by decide⟩
def tb_L_back : eTb := [(0, t_ldO 2 1 0), (1, t_push (.inl 0) 1 1), (2, t_ldO 0 1 2), (3, t_ldI 1 1 3), (4, t_callX 2 1 6 x_X4_back (e_h2 q_IO q_IS 13 16) 4), (7, t_i1 (fun a => .inr (.inl a.toInt64)) 7), (8, t_last 8), (9, t_goto 18), (13, t_push (.inl 1) 1 13), (14, t_jret), (16, t_push (.inl 2) 1 16), (17, t_jret), (18, t_push (.inl 0) 1 18), (19, t_jret)]
theorem st_L_back {G : eG} (hG : gr G = e_rf) : ∀ x ∈ tb_L_back, e_Sh (tableOf hh_L_back) G RL i_L_back x.1 x.2 :=
  e_more (e_Sh.of (e_Sg.of (s_aload_n (k := 2) (by decide +kernel) rfl) hG)) (
  e_more (e_Sh.of (e_Sg.of (s_iconst (n := 0) (v := 0) (by decide +kernel) (by decide)) hG)) (
  e_more (e_Sh.of (e_Sg.of (s_aload_n (k := 0) (by decide +kernel) rfl) hG)) (
  e_more (e_Sh.of (e_Sg.of (s_iload_n (k := 1) (by decide +kernel) rfl) hG)) (
  e_more (s_callX (c := 4) (idx := 26) hG kx_X4_back (by decide +kernel) cl_X4_back (by decide) wd_1048 wd_1049 wd_1050 (by decide) (e_sfx_rec rfl) (fun E t h => by
    rcases e_h2_of h with ⟨rfl, rfl⟩ | ⟨rfl, rfl⟩
    · exact e_ct1 (by decide) (by decide) wd_1015 (by decide +kernel) (Or.inl ⟨3, by decide +kernel, by decide, rfl⟩)
    · exact e_ct2 (by decide) wd_1015 (by decide) (by decide) (by decide) wd_951 (by decide +kernel) (Or.inl ⟨3, by decide +kernel, by decide, rfl⟩))) (
  e_more (e_Sh.of (e_Sg.of (s_i2l (by decide +kernel)) hG)) (
  e_more (e_Sh.of (e_Sg.of (s_last (by decide +kernel)) hG)) (
  e_more (e_Sh.of (e_Sg.of (s_goto (off := 9) (by decide +kernel) (by decide)) hG)) (
  e_more (e_Sh.of (e_Sg.of (s_iconst (n := 1) (v := 1) (by decide +kernel) (by decide)) hG)) (
  e_more (e_Sh.of (e_Sg.of (s_jret (by decide +kernel) rfl) hG)) (
  e_more (e_Sh.of (e_Sg.of (s_iconst (n := 2) (v := 2) (by decide +kernel) (by decide)) hG)) (
  e_more (e_Sh.of (e_Sg.of (s_jret (by decide +kernel) rfl) hG)) (
  e_more (e_Sh.of (e_Sg.of (s_iconst (n := 0) (v := 0) (by decide +kernel) (by decide)) hG)) (
  e_more (e_Sh.of (e_Sg.of (s_jret (by decide +kernel) rfl) hG)) (
  e_no_more))))))))))))))
def w_L_back : eW := e_rn tb_L_back (iL i_L_back) 1 6
theorem k_L_back : e_OH e_rf i_L_back hh_L_back 1 6 w_L_back := k_hh (own := RL) ⟨by decide +kernel, rfl⟩ (by decide) (fun _ hG => st_L_back hG)
theorem q_L_back {S : eM} {post : eQ} {x : Int32} (h : ∀ (P : eQ) (X : eX), (∀ S2, post (some (aI 1)) S2 → X q_IO S2) → (∀ S2, post (some (aI 2)) S2 → X q_IS S2) → (∀ r S2, post (some (aI 0)) (sL S2 15 0 0 r.toInt64) → P (some (aI r)) S2) → x_X4_back [aR 0 0, aI x] S P X) : w_L_back [aR 0 0, aI x, aR 15 0] S post := by
  refine e_walk (stops := []) 20 ?_
  exact ⟨Nat.le_refl _, Nat.le_refl _, h _ _ (fun S2 hp => ⟨13, e_h2_a, hp⟩) (fun S2 hp => ⟨16, e_h2_b (by decide), hp⟩) (fun r S2 hp => ⟨e_in15, hp⟩)⟩
abbrev i_L_dent : eI := (yL_dent, cL_dent, 5, (some .int), 11)
abbrev hh_L_dent : List (Nat × Nat × Nat × Nat) := [(0, 10, 13, 24), (0, 10, 17, 13)]
theorem cl_L_dent : e_ClH i_L_dent hh_L_dent 4 := ⟨wd_1071, wd_72, ⟨by decide, by decide⟩, by decide +kernel, by decide⟩
def tb_L_dent : eTb := [(0, t_ldO 3 1 0), (1, t_push (.inl 0) 1 1), (2, t_ldO 0 1 2), (3, t_ldI 1 1 3), (4, t_ldI 2 1 4), (5, t_callX 3 1 6 x_X4_dent (e_h2 q_IO q_IA 15 19) 5), (8, t_i1 (fun a => .inr (.inl a.toInt64)) 8), (9, t_last 9), (10, t_goto 21), (15, t_push (.inl 1) 1 15), (16, t_jret), (19, t_push (.inl 2) 1 19), (20, t_jret), (21, t_push (.inl 0) 1 21), (22, t_jret)]
theorem st_L_dent {G : eG} (hG : gr G = e_rf) : ∀ x ∈ tb_L_dent, e_Sh (tableOf hh_L_dent) G RL i_L_dent x.1 x.2 :=
  e_more (e_Sh.of (e_Sg.of (s_aload_n (k := 3) (by decide +kernel) rfl) hG)) (
  e_more (e_Sh.of (e_Sg.of (s_iconst (n := 0) (v := 0) (by decide +kernel) (by decide)) hG)) (
  e_more (e_Sh.of (e_Sg.of (s_aload_n (k := 0) (by decide +kernel) rfl) hG)) (
  e_more (e_Sh.of (e_Sg.of (s_iload_n (k := 1) (by decide +kernel) rfl) hG)) (
  e_more (e_Sh.of (e_Sg.of (s_iload_n (k := 2) (by decide +kernel) rfl) hG)) (
  e_more (s_callX (c := 4) (idx := 29) hG kx_X4_dent (by decide +kernel) cl_X4_dent (by decide) wd_1072 wd_1073 wd_1074 (by decide) (e_sfx_rec rfl) (fun E t h => by
    rcases e_h2_of h with ⟨rfl, rfl⟩ | ⟨rfl, rfl⟩
    · exact e_ct1 (by decide) (by decide) wd_1015 (by decide +kernel) (Or.inr ⟨4, by decide +kernel, by decide, rfl⟩)
    · exact e_ct2 (by decide) wd_1015 (by decide) (by decide) (by decide) wd_950 (by decide +kernel) (Or.inr ⟨4, by decide +kernel, by decide, rfl⟩))) (
  e_more (e_Sh.of (e_Sg.of (s_i2l (by decide +kernel)) hG)) (
  e_more (e_Sh.of (e_Sg.of (s_last (by decide +kernel)) hG)) (
  e_more (e_Sh.of (e_Sg.of (s_goto (off := 11) (by decide +kernel) (by decide)) hG)) (
  e_more (e_Sh.of (e_Sg.of (s_iconst (n := 1) (v := 1) (by decide +kernel) (by decide)) hG)) (
  e_more (e_Sh.of (e_Sg.of (s_jret (by decide +kernel) rfl) hG)) (
  e_more (e_Sh.of (e_Sg.of (s_iconst (n := 2) (v := 2) (by decide +kernel) (by decide)) hG)) (
  e_more (e_Sh.of (e_Sg.of (s_jret (by decide +kernel) rfl) hG)) (
  e_more (e_Sh.of (e_Sg.of (s_iconst (n := 0) (v := 0) (by decide +kernel) (by decide)) hG)) (
  e_more (e_Sh.of (e_Sg.of (s_jret (by decide +kernel) rfl) hG)) (
  e_no_more)))))))))))))))
def w_L_dent : eW := e_rn tb_L_dent (iL i_L_dent) 1 6
theorem k_L_dent : e_OH e_rf i_L_dent hh_L_dent 1 6 w_L_dent := k_hh (own := RL) ⟨by decide +kernel, rfl⟩ (by decide) (fun _ hG => st_L_dent hG)
theorem q_L_dent {S : eM} {post : eQ} {x y : Int32} (h : ∀ (P : eQ) (X : eX), (∀ S2, post (some (aI 1)) S2 → X q_IO S2) → (∀ S2, post (some (aI 2)) S2 → X q_IA S2) → (∀ r S2, post (some (aI 0)) (sL S2 15 0 0 r.toInt64) → P (some (aI r)) S2) → x_X4_dent [aR 0 0, aI x, aI y] S P X) : w_L_dent [aR 0 0, aI x, aI y, aR 15 0] S post := by
  refine e_walk (stops := []) 20 ?_
  exact ⟨Nat.le_refl _, Nat.le_refl _, h _ _ (fun S2 hp => ⟨15, e_h2_a, hp⟩) (fun S2 hp => ⟨19, e_h2_b (by decide), hp⟩) (fun r S2 hp => ⟨e_in15, hp⟩)⟩
abbrev i_L_mend : eI := (yL_mend, cL_mend, 4, (some .int), 11)
abbrev hh_L_mend : List (Nat × Nat × Nat × Nat) := [(0, 9, 12, 24), (0, 9, 15, 15)]
theorem cl_L_mend : e_ClH i_L_mend hh_L_mend 3 := ⟨wd_1084, wd_72, ⟨by decide, by decide⟩, by decide +kernel, by decide⟩
def tb_L_mend : eTb := [(0, t_ldO 2 1 0), (1, t_push (.inl 0) 1 1), (2, t_ldO 0 1 2), (3, t_ldI 1 1 3), (4, t_callX 2 1 6 x_X4_mend (e_h2 q_IO q_IS 13 16) 4), (7, t_i1 (fun a => .inr (.inl a.toInt64)) 7), (8, t_last 8), (9, t_goto 18), (13, t_push (.inl 1) 1 13), (14, t_jret), (16, t_push (.inl 2) 1 16), (17, t_jret), (18, t_push (.inl 0) 1 18), (19, t_jret)]
theorem st_L_mend {G : eG} (hG : gr G = e_rf) : ∀ x ∈ tb_L_mend, e_Sh (tableOf hh_L_mend) G RL i_L_mend x.1 x.2 :=
  e_more (e_Sh.of (e_Sg.of (s_aload_n (k := 2) (by decide +kernel) rfl) hG)) (
  e_more (e_Sh.of (e_Sg.of (s_iconst (n := 0) (v := 0) (by decide +kernel) (by decide)) hG)) (
  e_more (e_Sh.of (e_Sg.of (s_aload_n (k := 0) (by decide +kernel) rfl) hG)) (
  e_more (e_Sh.of (e_Sg.of (s_iload_n (k := 1) (by decide +kernel) rfl) hG)) (
  e_more (s_callX (c := 4) (idx := 32) hG kx_X4_mend (by decide +kernel) cl_X4_mend (by decide) wd_1085 wd_1086 wd_1087 (by decide) (e_sfx_rec rfl) (fun E t h => by
    rcases e_h2_of h with ⟨rfl, rfl⟩ | ⟨rfl, rfl⟩
    · exact e_ct1 (by decide) (by decide) wd_1015 (by decide +kernel) (Or.inl ⟨3, by decide +kernel, by decide, rfl⟩)
    · exact e_ct2 (by decide) wd_1015 (by decide) (by decide) (by decide) wd_951 (by decide +kernel) (Or.inl ⟨3, by decide +kernel, by decide, rfl⟩))) (
  e_more (e_Sh.of (e_Sg.of (s_i2l (by decide +kernel)) hG)) (
  e_more (e_Sh.of (e_Sg.of (s_last (by decide +kernel)) hG)) (
  e_more (e_Sh.of (e_Sg.of (s_goto (off := 9) (by decide +kernel) (by decide)) hG)) (
  e_more (e_Sh.of (e_Sg.of (s_iconst (n := 1) (v := 1) (by decide +kernel) (by decide)) hG)) (
  e_more (e_Sh.of (e_Sg.of (s_jret (by decide +kernel) rfl) hG)) (
  e_more (e_Sh.of (e_Sg.of (s_iconst (n := 2) (v := 2) (by decide +kernel) (by decide)) hG)) (
  e_more (e_Sh.of (e_Sg.of (s_jret (by decide +kernel) rfl) hG)) (
  e_more (e_Sh.of (e_Sg.of (s_iconst (n := 0) (v := 0) (by decide +kernel) (by decide)) hG)) (
  e_more (e_Sh.of (e_Sg.of (s_jret (by decide +kernel) rfl) hG)) (
  e_no_more))))))))))))))
def w_L_mend : eW := e_rn tb_L_mend (iL i_L_mend) 1 6
theorem k_L_mend : e_OH e_rf i_L_mend hh_L_mend 1 6 w_L_mend := k_hh (own := RL) ⟨by decide +kernel, rfl⟩ (by decide) (fun _ hG => st_L_mend hG)
theorem q_L_mend {S : eM} {post : eQ} {x : Int32} (h : ∀ (P : eQ) (X : eX), (∀ S2, post (some (aI 1)) S2 → X q_IO S2) → (∀ S2, post (some (aI 2)) S2 → X q_IS S2) → (∀ r S2, post (some (aI 0)) (sL S2 15 0 0 r.toInt64) → P (some (aI r)) S2) → x_X4_mend [aR 0 0, aI x] S P X) : w_L_mend [aR 0 0, aI x, aR 15 0] S post := by
  refine e_walk (stops := []) 20 ?_
  exact ⟨Nat.le_refl _, Nat.le_refl _, h _ _ (fun S2 hp => ⟨13, e_h2_a, hp⟩) (fun S2 hp => ⟨16, e_h2_b (by decide), hp⟩) (fun r S2 hp => ⟨e_in15, hp⟩)⟩
abbrev i_L_pay : eI := (yL_pay, cL_pay, 5, (some .int), 11)
abbrev hh_L_pay : List (Nat × Nat × Nat × Nat) := [(0, 10, 13, 24), (0, 10, 17, 13)]
theorem cl_L_pay : e_ClH i_L_pay hh_L_pay 4 := ⟨wd_1101, wd_72, ⟨by decide, by decide⟩, by decide +kernel, by decide⟩
def tb_L_pay : eTb := [(0, t_ldO 3 1 0), (1, t_push (.inl 0) 1 1), (2, t_ldO 0 1 2), (3, t_ldI 1 1 3), (4, t_ldI 2 1 4), (5, t_callX 3 1 6 x_X4_pay (e_h2 q_IO q_IA 15 19) 5), (8, t_i1 (fun a => .inr (.inl a.toInt64)) 8), (9, t_last 9), (10, t_goto 21), (15, t_push (.inl 1) 1 15), (16, t_jret), (19, t_push (.inl 2) 1 19), (20, t_jret), (21, t_push (.inl 0) 1 21), (22, t_jret)]
theorem st_L_pay {G : eG} (hG : gr G = e_rf) : ∀ x ∈ tb_L_pay, e_Sh (tableOf hh_L_pay) G RL i_L_pay x.1 x.2 :=
  e_more (e_Sh.of (e_Sg.of (s_aload_n (k := 3) (by decide +kernel) rfl) hG)) (
  e_more (e_Sh.of (e_Sg.of (s_iconst (n := 0) (v := 0) (by decide +kernel) (by decide)) hG)) (
  e_more (e_Sh.of (e_Sg.of (s_aload_n (k := 0) (by decide +kernel) rfl) hG)) (
  e_more (e_Sh.of (e_Sg.of (s_iload_n (k := 1) (by decide +kernel) rfl) hG)) (
  e_more (e_Sh.of (e_Sg.of (s_iload_n (k := 2) (by decide +kernel) rfl) hG)) (
  e_more (s_callX (c := 4) (idx := 35) hG kx_X4_pay (by decide +kernel) cl_X4_pay (by decide) wd_1102 wd_1103 wd_1104 (by decide) (e_sfx_rec rfl) (fun E t h => by
    rcases e_h2_of h with ⟨rfl, rfl⟩ | ⟨rfl, rfl⟩
    · exact e_ct1 (by decide) (by decide) wd_1015 (by decide +kernel) (Or.inr ⟨4, by decide +kernel, by decide, rfl⟩)
    · exact e_ct2 (by decide) wd_1015 (by decide) (by decide) (by decide) wd_950 (by decide +kernel) (Or.inr ⟨4, by decide +kernel, by decide, rfl⟩))) (
  e_more (e_Sh.of (e_Sg.of (s_i2l (by decide +kernel)) hG)) (
  e_more (e_Sh.of (e_Sg.of (s_last (by decide +kernel)) hG)) (
  e_more (e_Sh.of (e_Sg.of (s_goto (off := 11) (by decide +kernel) (by decide)) hG)) (
  e_more (e_Sh.of (e_Sg.of (s_iconst (n := 1) (v := 1) (by decide +kernel) (by decide)) hG)) (
  e_more (e_Sh.of (e_Sg.of (s_jret (by decide +kernel) rfl) hG)) (
  e_more (e_Sh.of (e_Sg.of (s_iconst (n := 2) (v := 2) (by decide +kernel) (by decide)) hG)) (
  e_more (e_Sh.of (e_Sg.of (s_jret (by decide +kernel) rfl) hG)) (
  e_more (e_Sh.of (e_Sg.of (s_iconst (n := 0) (v := 0) (by decide +kernel) (by decide)) hG)) (
  e_more (e_Sh.of (e_Sg.of (s_jret (by decide +kernel) rfl) hG)) (
  e_no_more)))))))))))))))
def w_L_pay : eW := e_rn tb_L_pay (iL i_L_pay) 1 6
theorem k_L_pay : e_OH e_rf i_L_pay hh_L_pay 1 6 w_L_pay := k_hh (own := RL) ⟨by decide +kernel, rfl⟩ (by decide) (fun _ hG => st_L_pay hG)
theorem q_L_pay {S : eM} {post : eQ} {x y : Int32} (h : ∀ (P : eQ) (X : eX), (∀ S2, post (some (aI 1)) S2 → X q_IO S2) → (∀ S2, post (some (aI 2)) S2 → X q_IA S2) → (∀ r S2, post (some (aI 0)) (sL S2 15 0 0 r.toInt64) → P (some (aI r)) S2) → x_X4_pay [aR 0 0, aI x, aI y] S P X) : w_L_pay [aR 0 0, aI x, aI y, aR 15 0] S post := by
  refine e_walk (stops := []) 20 ?_
  exact ⟨Nat.le_refl _, Nat.le_refl _, h _ _ (fun S2 hp => ⟨15, e_h2_a, hp⟩) (fun S2 hp => ⟨19, e_h2_b (by decide), hp⟩) (fun r S2 hp => ⟨e_in15, hp⟩)⟩
abbrev i_L_set : eI := (yL_set, cL_set, 5, (some .int), 11)
abbrev hh_L_set : List (Nat × Nat × Nat × Nat) := [(0, 10, 13, 24), (0, 10, 17, 13)]
theorem cl_L_set : e_ClH i_L_set hh_L_set 4 := ⟨wd_1115, wd_72, ⟨by decide, by decide⟩, by decide +kernel, by decide⟩
def tb_L_set : eTb := [(0, t_ldO 3 1 0), (1, t_push (.inl 0) 1 1), (2, t_ldO 0 1 2), (3, t_ldI 1 1 3), (4, t_ldI 2 1 4), (5, t_callX 3 1 6 x_X4_set (e_h2 q_IO q_IA 15 19) 5), (8, t_i1 (fun a => .inr (.inl a.toInt64)) 8), (9, t_last 9), (10, t_goto 21), (15, t_push (.inl 1) 1 15), (16, t_jret), (19, t_push (.inl 2) 1 19), (20, t_jret), (21, t_push (.inl 0) 1 21), (22, t_jret)]
theorem st_L_set {G : eG} (hG : gr G = e_rf) : ∀ x ∈ tb_L_set, e_Sh (tableOf hh_L_set) G RL i_L_set x.1 x.2 :=
  e_more (e_Sh.of (e_Sg.of (s_aload_n (k := 3) (by decide +kernel) rfl) hG)) (
  e_more (e_Sh.of (e_Sg.of (s_iconst (n := 0) (v := 0) (by decide +kernel) (by decide)) hG)) (
  e_more (e_Sh.of (e_Sg.of (s_aload_n (k := 0) (by decide +kernel) rfl) hG)) (
  e_more (e_Sh.of (e_Sg.of (s_iload_n (k := 1) (by decide +kernel) rfl) hG)) (
  e_more (e_Sh.of (e_Sg.of (s_iload_n (k := 2) (by decide +kernel) rfl) hG)) (
  e_more (s_callX (c := 4) (idx := 38) hG kx_X4_set (by decide +kernel) cl_X4_set (by decide) wd_1116 wd_1117 wd_1118 (by decide) (e_sfx_rec rfl) (fun E t h => by
    rcases e_h2_of h with ⟨rfl, rfl⟩ | ⟨rfl, rfl⟩
    · exact e_ct1 (by decide) (by decide) wd_1015 (by decide +kernel) (Or.inr ⟨4, by decide +kernel, by decide, rfl⟩)
    · exact e_ct2 (by decide) wd_1015 (by decide) (by decide) (by decide) wd_950 (by decide +kernel) (Or.inr ⟨4, by decide +kernel, by decide, rfl⟩))) (
  e_more (e_Sh.of (e_Sg.of (s_i2l (by decide +kernel)) hG)) (
  e_more (e_Sh.of (e_Sg.of (s_last (by decide +kernel)) hG)) (
  e_more (e_Sh.of (e_Sg.of (s_goto (off := 11) (by decide +kernel) (by decide)) hG)) (
  e_more (e_Sh.of (e_Sg.of (s_iconst (n := 1) (v := 1) (by decide +kernel) (by decide)) hG)) (
  e_more (e_Sh.of (e_Sg.of (s_jret (by decide +kernel) rfl) hG)) (
  e_more (e_Sh.of (e_Sg.of (s_iconst (n := 2) (v := 2) (by decide +kernel) (by decide)) hG)) (
  e_more (e_Sh.of (e_Sg.of (s_jret (by decide +kernel) rfl) hG)) (
  e_more (e_Sh.of (e_Sg.of (s_iconst (n := 0) (v := 0) (by decide +kernel) (by decide)) hG)) (
  e_more (e_Sh.of (e_Sg.of (s_jret (by decide +kernel) rfl) hG)) (
  e_no_more)))))))))))))))
def w_L_set : eW := e_rn tb_L_set (iL i_L_set) 1 6
theorem k_L_set : e_OH e_rf i_L_set hh_L_set 1 6 w_L_set := k_hh (own := RL) ⟨by decide +kernel, rfl⟩ (by decide) (fun _ hG => st_L_set hG)
theorem q_L_set {S : eM} {post : eQ} {x y : Int32} (h : ∀ (P : eQ) (X : eX), (∀ S2, post (some (aI 1)) S2 → X q_IO S2) → (∀ S2, post (some (aI 2)) S2 → X q_IA S2) → (∀ r S2, post (some (aI 0)) (sL S2 15 0 0 r.toInt64) → P (some (aI r)) S2) → x_X4_set [aR 0 0, aI x, aI y] S P X) : w_L_set [aR 0 0, aI x, aI y, aR 15 0] S post := by
  refine e_walk (stops := []) 20 ?_
  exact ⟨Nat.le_refl _, Nat.le_refl _, h _ _ (fun S2 hp => ⟨15, e_h2_a, hp⟩) (fun S2 hp => ⟨19, e_h2_b (by decide), hp⟩) (fun r S2 hp => ⟨e_in15, hp⟩)⟩
abbrev i_L_pass : eI := (yL_pass, cL_pass, 4, (some .int), 11)
abbrev hh_L_pass : List (Nat × Nat × Nat × Nat) := [(0, 9, 12, 13)]
theorem cl_L_pass : e_ClH i_L_pass hh_L_pass 3 := ⟨wd_1133, wd_72, ⟨by decide, by decide⟩, by decide +kernel, by decide⟩
def tb_L_pass : eTb := [(0, t_ldO 2 1 0), (1, t_push (.inl 0) 1 1), (2, t_ldO 0 1 2), (3, t_ldI 1 1 3), (4, t_callX 2 1 6 x_X4_pass (e_h1 q_IA 13) 4), (7, t_i1 (fun a => .inr (.inl a.toInt64)) 7), (8, t_last 8), (9, t_goto 15), (13, t_push (.inl 1) 1 13), (14, t_jret), (15, t_push (.inl 0) 1 15), (16, t_jret)]
theorem st_L_pass {G : eG} (hG : gr G = e_rf) : ∀ x ∈ tb_L_pass, e_Sh (tableOf hh_L_pass) G RL i_L_pass x.1 x.2 :=
  e_more (e_Sh.of (e_Sg.of (s_aload_n (k := 2) (by decide +kernel) rfl) hG)) (
  e_more (e_Sh.of (e_Sg.of (s_iconst (n := 0) (v := 0) (by decide +kernel) (by decide)) hG)) (
  e_more (e_Sh.of (e_Sg.of (s_aload_n (k := 0) (by decide +kernel) rfl) hG)) (
  e_more (e_Sh.of (e_Sg.of (s_iload_n (k := 1) (by decide +kernel) rfl) hG)) (
  e_more (s_callX (c := 4) (idx := 41) hG kx_X4_pass (by decide +kernel) cl_X4_pass (by decide) wd_1134 wd_1135 wd_1136 (by decide) (e_sfx_rec rfl) (fun E t h => by obtain ⟨rfl, rfl⟩ := e_h1_of h; exact e_ct1 (by decide) (by decide) wd_950 (by decide +kernel) (Or.inl ⟨3, by decide +kernel, by decide, rfl⟩))) (
  e_more (e_Sh.of (e_Sg.of (s_i2l (by decide +kernel)) hG)) (
  e_more (e_Sh.of (e_Sg.of (s_last (by decide +kernel)) hG)) (
  e_more (e_Sh.of (e_Sg.of (s_goto (off := 6) (by decide +kernel) (by decide)) hG)) (
  e_more (e_Sh.of (e_Sg.of (s_iconst (n := 1) (v := 1) (by decide +kernel) (by decide)) hG)) (
  e_more (e_Sh.of (e_Sg.of (s_jret (by decide +kernel) rfl) hG)) (
  e_more (e_Sh.of (e_Sg.of (s_iconst (n := 0) (v := 0) (by decide +kernel) (by decide)) hG)) (
  e_more (e_Sh.of (e_Sg.of (s_jret (by decide +kernel) rfl) hG)) (
  e_no_more))))))))))))
def w_L_pass : eW := e_rn tb_L_pass (iL i_L_pass) 1 6
theorem k_L_pass : e_OH e_rf i_L_pass hh_L_pass 1 6 w_L_pass := k_hh (own := RL) ⟨by decide +kernel, rfl⟩ (by decide) (fun _ hG => st_L_pass hG)
theorem q_L_pass {S : eM} {post : eQ} {x : Int32} (h : ∀ (P : eQ) (X : eX), (∀ S2, post (some (aI 1)) S2 → X q_IA S2) → (∀ r S2, post (some (aI 0)) (sL S2 15 0 0 r.toInt64) → P (some (aI r)) S2) → x_X4_pass [aR 0 0, aI x] S P X) : w_L_pass [aR 0 0, aI x, aR 15 0] S post := by
  refine e_walk (stops := []) 20 ?_
  exact ⟨Nat.le_refl _, Nat.le_refl _, h _ _ (fun S2 hp => ⟨13, e_h1_at, hp⟩) (fun r S2 hp => ⟨e_in15, hp⟩)⟩
abbrev i_L_teach : eI := (yL_teach, cL_teach, 5, (some .int), 11)
abbrev hh_L_teach : List (Nat × Nat × Nat × Nat) := [(0, 10, 13, 24), (0, 10, 17, 15)]
theorem cl_L_teach : e_ClH i_L_teach hh_L_teach 4 := ⟨wd_1145, wd_72, ⟨by decide, by decide⟩, by decide +kernel, by decide⟩
def tb_L_teach : eTb := [(0, t_ldO 3 1 0), (1, t_push (.inl 0) 1 1), (2, t_ldO 0 1 2), (3, t_ldI 1 1 3), (4, t_ldI 2 1 4), (5, t_callX 3 1 6 x_X4_teach (e_h2 q_IO q_IS 15 19) 5), (8, t_i1 (fun a => .inr (.inl a.toInt64)) 8), (9, t_last 9), (10, t_goto 21), (15, t_push (.inl 1) 1 15), (16, t_jret), (19, t_push (.inl 2) 1 19), (20, t_jret), (21, t_push (.inl 0) 1 21), (22, t_jret)]
theorem st_L_teach {G : eG} (hG : gr G = e_rf) : ∀ x ∈ tb_L_teach, e_Sh (tableOf hh_L_teach) G RL i_L_teach x.1 x.2 :=
  e_more (e_Sh.of (e_Sg.of (s_aload_n (k := 3) (by decide +kernel) rfl) hG)) (
  e_more (e_Sh.of (e_Sg.of (s_iconst (n := 0) (v := 0) (by decide +kernel) (by decide)) hG)) (
  e_more (e_Sh.of (e_Sg.of (s_aload_n (k := 0) (by decide +kernel) rfl) hG)) (
  e_more (e_Sh.of (e_Sg.of (s_iload_n (k := 1) (by decide +kernel) rfl) hG)) (
  e_more (e_Sh.of (e_Sg.of (s_iload_n (k := 2) (by decide +kernel) rfl) hG)) (
  e_more (s_callX (c := 4) (idx := 44) hG kx_X4_teach (by decide +kernel) cl_X4_teach (by decide) wd_1146 wd_1147 wd_1148 (by decide) (e_sfx_rec rfl) (fun E t h => by
    rcases e_h2_of h with ⟨rfl, rfl⟩ | ⟨rfl, rfl⟩
    · exact e_ct1 (by decide) (by decide) wd_1015 (by decide +kernel) (Or.inr ⟨4, by decide +kernel, by decide, rfl⟩)
    · exact e_ct2 (by decide) wd_1015 (by decide) (by decide) (by decide) wd_951 (by decide +kernel) (Or.inr ⟨4, by decide +kernel, by decide, rfl⟩))) (
  e_more (e_Sh.of (e_Sg.of (s_i2l (by decide +kernel)) hG)) (
  e_more (e_Sh.of (e_Sg.of (s_last (by decide +kernel)) hG)) (
  e_more (e_Sh.of (e_Sg.of (s_goto (off := 11) (by decide +kernel) (by decide)) hG)) (
  e_more (e_Sh.of (e_Sg.of (s_iconst (n := 1) (v := 1) (by decide +kernel) (by decide)) hG)) (
  e_more (e_Sh.of (e_Sg.of (s_jret (by decide +kernel) rfl) hG)) (
  e_more (e_Sh.of (e_Sg.of (s_iconst (n := 2) (v := 2) (by decide +kernel) (by decide)) hG)) (
  e_more (e_Sh.of (e_Sg.of (s_jret (by decide +kernel) rfl) hG)) (
  e_more (e_Sh.of (e_Sg.of (s_iconst (n := 0) (v := 0) (by decide +kernel) (by decide)) hG)) (
  e_more (e_Sh.of (e_Sg.of (s_jret (by decide +kernel) rfl) hG)) (
  e_no_more)))))))))))))))
def w_L_teach : eW := e_rn tb_L_teach (iL i_L_teach) 1 6
theorem k_L_teach : e_OH e_rf i_L_teach hh_L_teach 1 6 w_L_teach := k_hh (own := RL) ⟨by decide +kernel, rfl⟩ (by decide) (fun _ hG => st_L_teach hG)
theorem q_L_teach {S : eM} {post : eQ} {x y : Int32} (h : ∀ (P : eQ) (X : eX), (∀ S2, post (some (aI 1)) S2 → X q_IO S2) → (∀ S2, post (some (aI 2)) S2 → X q_IS S2) → (∀ r S2, post (some (aI 0)) (sL S2 15 0 0 r.toInt64) → P (some (aI r)) S2) → x_X4_teach [aR 0 0, aI x, aI y] S P X) : w_L_teach [aR 0 0, aI x, aI y, aR 15 0] S post := by
  refine e_walk (stops := []) 20 ?_
  exact ⟨Nat.le_refl _, Nat.le_refl _, h _ _ (fun S2 hp => ⟨15, e_h2_a, hp⟩) (fun S2 hp => ⟨19, e_h2_b (by decide), hp⟩) (fun r S2 hp => ⟨e_in15, hp⟩)⟩
abbrev i_L_march : eI := (yL_march, cL_march, 4, (some .int), 11)
abbrev hh_L_march : List (Nat × Nat × Nat × Nat) := [(0, 9, 12, 24), (0, 9, 15, 15)]
theorem cl_L_march : e_ClH i_L_march hh_L_march 3 := ⟨wd_1167, wd_72, ⟨by decide, by decide⟩, by decide +kernel, by decide⟩
def tb_L_march : eTb := [(0, t_ldO 2 1 0), (1, t_push (.inl 0) 1 1), (2, t_ldO 0 1 2), (3, t_ldI 1 1 3), (4, t_callX 2 1 6 x_X4_march (e_h2 q_IO q_IS 13 16) 4), (7, t_i1 (fun a => .inr (.inl a.toInt64)) 7), (8, t_last 8), (9, t_goto 18), (13, t_push (.inl 1) 1 13), (14, t_jret), (16, t_push (.inl 2) 1 16), (17, t_jret), (18, t_push (.inl 0) 1 18), (19, t_jret)]
theorem st_L_march {G : eG} (hG : gr G = e_rf) : ∀ x ∈ tb_L_march, e_Sh (tableOf hh_L_march) G RL i_L_march x.1 x.2 :=
  e_more (e_Sh.of (e_Sg.of (s_aload_n (k := 2) (by decide +kernel) rfl) hG)) (
  e_more (e_Sh.of (e_Sg.of (s_iconst (n := 0) (v := 0) (by decide +kernel) (by decide)) hG)) (
  e_more (e_Sh.of (e_Sg.of (s_aload_n (k := 0) (by decide +kernel) rfl) hG)) (
  e_more (e_Sh.of (e_Sg.of (s_iload_n (k := 1) (by decide +kernel) rfl) hG)) (
  e_more (s_callX (c := 4) (idx := 47) hG kx_X4_march (by decide +kernel) cl_X4_march (by decide) wd_1168 wd_1169 wd_1170 (by decide) (e_sfx_rec rfl) (fun E t h => by
    rcases e_h2_of h with ⟨rfl, rfl⟩ | ⟨rfl, rfl⟩
    · exact e_ct1 (by decide) (by decide) wd_1015 (by decide +kernel) (Or.inl ⟨3, by decide +kernel, by decide, rfl⟩)
    · exact e_ct2 (by decide) wd_1015 (by decide) (by decide) (by decide) wd_951 (by decide +kernel) (Or.inl ⟨3, by decide +kernel, by decide, rfl⟩))) (
  e_more (e_Sh.of (e_Sg.of (s_i2l (by decide +kernel)) hG)) (
  e_more (e_Sh.of (e_Sg.of (s_last (by decide +kernel)) hG)) (
  e_more (e_Sh.of (e_Sg.of (s_goto (off := 9) (by decide +kernel) (by decide)) hG)) (
  e_more (e_Sh.of (e_Sg.of (s_iconst (n := 1) (v := 1) (by decide +kernel) (by decide)) hG)) (
  e_more (e_Sh.of (e_Sg.of (s_jret (by decide +kernel) rfl) hG)) (
  e_more (e_Sh.of (e_Sg.of (s_iconst (n := 2) (v := 2) (by decide +kernel) (by decide)) hG)) (
  e_more (e_Sh.of (e_Sg.of (s_jret (by decide +kernel) rfl) hG)) (
  e_more (e_Sh.of (e_Sg.of (s_iconst (n := 0) (v := 0) (by decide +kernel) (by decide)) hG)) (
  e_more (e_Sh.of (e_Sg.of (s_jret (by decide +kernel) rfl) hG)) (
  e_no_more))))))))))))))
def w_L_march : eW := e_rn tb_L_march (iL i_L_march) 1 6
theorem k_L_march : e_OH e_rf i_L_march hh_L_march 1 6 w_L_march := k_hh (own := RL) ⟨by decide +kernel, rfl⟩ (by decide) (fun _ hG => st_L_march hG)
theorem q_L_march {S : eM} {post : eQ} {x : Int32} (h : ∀ (P : eQ) (X : eX), (∀ S2, post (some (aI 1)) S2 → X q_IO S2) → (∀ S2, post (some (aI 2)) S2 → X q_IS S2) → (∀ r S2, post (some (aI 0)) (sL S2 15 0 0 r.toInt64) → P (some (aI r)) S2) → x_X4_march [aR 0 0, aI x] S P X) : w_L_march [aR 0 0, aI x, aR 15 0] S post := by
  refine e_walk (stops := []) 20 ?_
  exact ⟨Nat.le_refl _, Nat.le_refl _, h _ _ (fun S2 hp => ⟨13, e_h2_a, hp⟩) (fun S2 hp => ⟨16, e_h2_b (by decide), hp⟩) (fun r S2 hp => ⟨e_in15, hp⟩)⟩
abbrev i_L_append : eI := (yL_append, cL_append, 4, (some .int), 11)
abbrev hh_L_append : List (Nat × Nat × Nat × Nat) := [(0, 9, 12, 13), (0, 9, 15, 15)]
theorem cl_L_append : e_ClH i_L_append hh_L_append 3 := ⟨wd_1200, wd_72, ⟨by decide, by decide⟩, by decide +kernel, by decide⟩
def tb_L_append : eTb := [(0, t_ldO 2 1 0), (1, t_push (.inl 0) 1 1), (2, t_ldO 0 1 2), (3, t_ldI 1 1 3), (4, t_callX 2 2 76 x_X4_append (e_h2 q_IA q_IS 13 16) 4), (7, t_i1 (fun a => .inr (.inl a.toInt64)) 7), (8, t_last 8), (9, t_goto 18), (13, t_push (.inl 1) 1 13), (14, t_jret), (16, t_push (.inl 2) 1 16), (17, t_jret), (18, t_push (.inl 0) 1 18), (19, t_jret)]
theorem st_L_append {G : eG} (hG : gr G = e_rf) : ∀ x ∈ tb_L_append, e_Sh (tableOf hh_L_append) G RL i_L_append x.1 x.2 :=
  e_more (e_Sh.of (e_Sg.of (s_aload_n (k := 2) (by decide +kernel) rfl) hG)) (
  e_more (e_Sh.of (e_Sg.of (s_iconst (n := 0) (v := 0) (by decide +kernel) (by decide)) hG)) (
  e_more (e_Sh.of (e_Sg.of (s_aload_n (k := 0) (by decide +kernel) rfl) hG)) (
  e_more (e_Sh.of (e_Sg.of (s_iload_n (k := 1) (by decide +kernel) rfl) hG)) (
  e_more (s_callX (c := 4) (idx := 50) hG kx_X4_append (by decide +kernel) cl_X4_append (by decide) wd_1201 wd_1202 wd_1203 (by decide) (e_sfx_rec rfl) (fun E t h => by
    rcases e_h2_of h with ⟨rfl, rfl⟩ | ⟨rfl, rfl⟩
    · exact e_ct1 (by decide) (by decide) wd_950 (by decide +kernel) (Or.inl ⟨3, by decide +kernel, by decide, rfl⟩)
    · exact e_ct2 (by decide) wd_950 (by decide) (by decide) (by decide) wd_951 (by decide +kernel) (Or.inl ⟨3, by decide +kernel, by decide, rfl⟩))) (
  e_more (e_Sh.of (e_Sg.of (s_i2l (by decide +kernel)) hG)) (
  e_more (e_Sh.of (e_Sg.of (s_last (by decide +kernel)) hG)) (
  e_more (e_Sh.of (e_Sg.of (s_goto (off := 9) (by decide +kernel) (by decide)) hG)) (
  e_more (e_Sh.of (e_Sg.of (s_iconst (n := 1) (v := 1) (by decide +kernel) (by decide)) hG)) (
  e_more (e_Sh.of (e_Sg.of (s_jret (by decide +kernel) rfl) hG)) (
  e_more (e_Sh.of (e_Sg.of (s_iconst (n := 2) (v := 2) (by decide +kernel) (by decide)) hG)) (
  e_more (e_Sh.of (e_Sg.of (s_jret (by decide +kernel) rfl) hG)) (
  e_more (e_Sh.of (e_Sg.of (s_iconst (n := 0) (v := 0) (by decide +kernel) (by decide)) hG)) (
  e_more (e_Sh.of (e_Sg.of (s_jret (by decide +kernel) rfl) hG)) (
  e_no_more))))))))))))))
def w_L_append : eW := e_rn tb_L_append (iL i_L_append) 2 76
theorem k_L_append : e_OH e_rf i_L_append hh_L_append 2 76 w_L_append := k_hh (own := RL) ⟨by decide +kernel, rfl⟩ (by decide) (fun _ hG => st_L_append hG)
theorem q_L_append {S : eM} {post : eQ} {x : Int32} (h : ∀ (P : eQ) (X : eX), (∀ S2, post (some (aI 1)) S2 → X q_IA S2) → (∀ S2, post (some (aI 2)) S2 → X q_IS S2) → (∀ r S2, post (some (aI 0)) (sL S2 15 0 0 r.toInt64) → P (some (aI r)) S2) → x_X4_append [aR 0 0, aI x] S P X) : w_L_append [aR 0 0, aI x, aR 15 0] S post := by
  refine e_walk (stops := []) 20 ?_
  exact ⟨Nat.le_refl _, Nat.le_refl _, h _ _ (fun S2 hp => ⟨13, e_h2_a, hp⟩) (fun S2 hp => ⟨16, e_h2_b (by decide), hp⟩) (fun r S2 hp => ⟨e_in15, hp⟩)⟩
abbrev i_L_work : eI := (yL_work, cL_work, 3, (some .int), 24)
abbrev hh_L_work : List (Nat × Nat × Nat × Nat) := [(0, 8, 11, 13)]
theorem cl_L_work : e_ClH i_L_work hh_L_work 2 := ⟨wd_1214, wd_72, ⟨by decide, by decide⟩, by decide +kernel, by decide⟩
def tb_L_work : eTb := [(0, t_ldO 1 1 0), (1, t_push (.inl 0) 1 1), (2, t_ldO 0 1 2), (3, t_callX 1 2 76 x_X4_work (e_h1 q_IA 12) 3), (6, t_i1 (fun a => .inr (.inl a.toInt64)) 6), (7, t_last 7), (8, t_goto 14), (12, t_push (.inl 1) 1 12), (13, t_jret), (14, t_push (.inl 0) 1 14), (15, t_jret)]
theorem st_L_work {G : eG} (hG : gr G = e_rf) : ∀ x ∈ tb_L_work, e_Sh (tableOf hh_L_work) G RL i_L_work x.1 x.2 :=
  e_more (e_Sh.of (e_Sg.of (s_aload_n (k := 1) (by decide +kernel) rfl) hG)) (
  e_more (e_Sh.of (e_Sg.of (s_iconst (n := 0) (v := 0) (by decide +kernel) (by decide)) hG)) (
  e_more (e_Sh.of (e_Sg.of (s_aload_n (k := 0) (by decide +kernel) rfl) hG)) (
  e_more (s_callX (c := 4) (idx := 53) hG kx_X4_work (by decide +kernel) cl_X4_work (by decide) wd_1215 wd_1216 wd_1217 (by decide) (e_sfx_rec rfl) (fun E t h => by obtain ⟨rfl, rfl⟩ := e_h1_of h; exact e_ct1 (by decide) (by decide) wd_950 (by decide +kernel) (Or.inl ⟨2, by decide +kernel, by decide, rfl⟩))) (
  e_more (e_Sh.of (e_Sg.of (s_i2l (by decide +kernel)) hG)) (
  e_more (e_Sh.of (e_Sg.of (s_last (by decide +kernel)) hG)) (
  e_more (e_Sh.of (e_Sg.of (s_goto (off := 6) (by decide +kernel) (by decide)) hG)) (
  e_more (e_Sh.of (e_Sg.of (s_iconst (n := 1) (v := 1) (by decide +kernel) (by decide)) hG)) (
  e_more (e_Sh.of (e_Sg.of (s_jret (by decide +kernel) rfl) hG)) (
  e_more (e_Sh.of (e_Sg.of (s_iconst (n := 0) (v := 0) (by decide +kernel) (by decide)) hG)) (
  e_more (e_Sh.of (e_Sg.of (s_jret (by decide +kernel) rfl) hG)) (
  e_no_more)))))))))))
def w_L_work : eW := e_rn tb_L_work (iL i_L_work) 2 76
theorem k_L_work : e_OH e_rf i_L_work hh_L_work 2 76 w_L_work := k_hh (own := RL) ⟨by decide +kernel, rfl⟩ (by decide) (fun _ hG => st_L_work hG)
theorem q_L_work {S : eM} {post : eQ} (h : ∀ (P : eQ) (X : eX), (∀ S2, post (some (aI 1)) S2 → X q_IA S2) → (∀ r S2, post (some (aI 0)) (sL S2 15 0 0 r.toInt64) → P (some (aI r)) S2) → x_X4_work [aR 0 0] S P X) : w_L_work [aR 0 0, aR 15 0] S post := by
  refine e_walk (stops := []) 20 ?_
  exact ⟨Nat.le_refl _, Nat.le_refl _, h _ _ (fun S2 hp => ⟨12, e_h1_at, hp⟩) (fun r S2 hp => ⟨e_in15, hp⟩)⟩
abbrev i_L_told : eI := (yL_told, cL_told, 5, (some .int), 24)
abbrev hh_L_told : List (Nat × Nat × Nat × Nat) := [(0, 10, 13, 24), (0, 10, 17, 13)]
theorem cl_L_told : e_ClH i_L_told hh_L_told 4 := ⟨wd_1240, wd_72, ⟨by decide, by decide⟩, by decide +kernel, by decide⟩
def tb_L_told : eTb := [(0, t_ldO 3 1 0), (1, t_push (.inl 0) 1 1), (2, t_ldO 0 1 2), (3, t_ldI 1 1 3), (4, t_ldI 2 1 4), (5, t_callX 3 17 1126 x_X4_told (e_h2 q_IO q_IA 15 19) 5), (8, t_i1 (fun a => .inr (.inl a.toInt64)) 8), (9, t_last 9), (10, t_goto 21), (15, t_push (.inl 1) 1 15), (16, t_jret), (19, t_push (.inl 2) 1 19), (20, t_jret), (21, t_push (.inl 0) 1 21), (22, t_jret)]
theorem st_L_told {G : eG} (hG : gr G = e_rf) : ∀ x ∈ tb_L_told, e_Sh (tableOf hh_L_told) G RL i_L_told x.1 x.2 :=
  e_more (e_Sh.of (e_Sg.of (s_aload_n (k := 3) (by decide +kernel) rfl) hG)) (
  e_more (e_Sh.of (e_Sg.of (s_iconst (n := 0) (v := 0) (by decide +kernel) (by decide)) hG)) (
  e_more (e_Sh.of (e_Sg.of (s_aload_n (k := 0) (by decide +kernel) rfl) hG)) (
  e_more (e_Sh.of (e_Sg.of (s_iload_n (k := 1) (by decide +kernel) rfl) hG)) (
  e_more (e_Sh.of (e_Sg.of (s_iload_n (k := 2) (by decide +kernel) rfl) hG)) (
  e_more (s_callX (c := 4) (idx := 57) hG kx_X4_told (by decide +kernel) cl_X4_told (by decide) wd_1241 wd_1242 wd_1243 (by decide) (e_sfx_rec rfl) (fun E t h => by
    rcases e_h2_of h with ⟨rfl, rfl⟩ | ⟨rfl, rfl⟩
    · exact e_ct1 (by decide) (by decide) wd_1015 (by decide +kernel) (Or.inr ⟨4, by decide +kernel, by decide, rfl⟩)
    · exact e_ct2 (by decide) wd_1015 (by decide) (by decide) (by decide) wd_950 (by decide +kernel) (Or.inr ⟨4, by decide +kernel, by decide, rfl⟩))) (
  e_more (e_Sh.of (e_Sg.of (s_i2l (by decide +kernel)) hG)) (
  e_more (e_Sh.of (e_Sg.of (s_last (by decide +kernel)) hG)) (
  e_more (e_Sh.of (e_Sg.of (s_goto (off := 11) (by decide +kernel) (by decide)) hG)) (
  e_more (e_Sh.of (e_Sg.of (s_iconst (n := 1) (v := 1) (by decide +kernel) (by decide)) hG)) (
  e_more (e_Sh.of (e_Sg.of (s_jret (by decide +kernel) rfl) hG)) (
  e_more (e_Sh.of (e_Sg.of (s_iconst (n := 2) (v := 2) (by decide +kernel) (by decide)) hG)) (
  e_more (e_Sh.of (e_Sg.of (s_jret (by decide +kernel) rfl) hG)) (
  e_more (e_Sh.of (e_Sg.of (s_iconst (n := 0) (v := 0) (by decide +kernel) (by decide)) hG)) (
  e_more (e_Sh.of (e_Sg.of (s_jret (by decide +kernel) rfl) hG)) (
  e_no_more)))))))))))))))
def w_L_told : eW := e_rn tb_L_told (iL i_L_told) 17 1126
theorem k_L_told : e_OH e_rf i_L_told hh_L_told 17 1126 w_L_told := k_hh (own := RL) ⟨by decide +kernel, rfl⟩ (by decide) (fun _ hG => st_L_told hG)
theorem q_L_told {S : eM} {post : eQ} {x y : Int32} (h : ∀ (P : eQ) (X : eX), (∀ S2, post (some (aI 1)) S2 → X q_IO S2) → (∀ S2, post (some (aI 2)) S2 → X q_IA S2) → (∀ r S2, post (some (aI 0)) (sL S2 15 0 0 r.toInt64) → P (some (aI r)) S2) → x_X4_told [aR 0 0, aI x, aI y] S P X) : w_L_told [aR 0 0, aI x, aI y, aR 15 0] S post := by
  refine e_walk (stops := []) 20 ?_
  exact ⟨Nat.le_refl _, Nat.le_refl _, h _ _ (fun S2 hp => ⟨15, e_h2_a, hp⟩) (fun S2 hp => ⟨19, e_h2_b (by decide), hp⟩) (fun r S2 hp => ⟨e_in15, hp⟩)⟩
abbrev i_L_undo : eI := (yL_undo, cL_undo, 3, (some .int), 11)
abbrev hh_L_undo : List (Nat × Nat × Nat × Nat) := [(0, 8, 11, 15)]
theorem cl_L_undo : e_ClH i_L_undo hh_L_undo 2 := ⟨wd_1248, wd_72, ⟨by decide, by decide⟩, by decide +kernel, by decide⟩
def tb_L_undo : eTb := [(0, t_ldO 1 1 0), (1, t_push (.inl 0) 1 1), (2, t_ldO 0 1 2), (3, t_callX 1 1 6 x_X4_undo (e_h1 q_IS 12) 3), (6, t_i1 (fun a => .inr (.inl a.toInt64)) 6), (7, t_last 7), (8, t_goto 14), (12, t_push (.inl 1) 1 12), (13, t_jret), (14, t_push (.inl 0) 1 14), (15, t_jret)]
theorem st_L_undo {G : eG} (hG : gr G = e_rf) : ∀ x ∈ tb_L_undo, e_Sh (tableOf hh_L_undo) G RL i_L_undo x.1 x.2 :=
  e_more (e_Sh.of (e_Sg.of (s_aload_n (k := 1) (by decide +kernel) rfl) hG)) (
  e_more (e_Sh.of (e_Sg.of (s_iconst (n := 0) (v := 0) (by decide +kernel) (by decide)) hG)) (
  e_more (e_Sh.of (e_Sg.of (s_aload_n (k := 0) (by decide +kernel) rfl) hG)) (
  e_more (s_callX (c := 4) (idx := 60) hG kx_X4_undo (by decide +kernel) cl_X4_undo (by decide) wd_1249 wd_1250 wd_1251 (by decide) (e_sfx_rec rfl) (fun E t h => by obtain ⟨rfl, rfl⟩ := e_h1_of h; exact e_ct1 (by decide) (by decide) wd_951 (by decide +kernel) (Or.inl ⟨2, by decide +kernel, by decide, rfl⟩))) (
  e_more (e_Sh.of (e_Sg.of (s_i2l (by decide +kernel)) hG)) (
  e_more (e_Sh.of (e_Sg.of (s_last (by decide +kernel)) hG)) (
  e_more (e_Sh.of (e_Sg.of (s_goto (off := 6) (by decide +kernel) (by decide)) hG)) (
  e_more (e_Sh.of (e_Sg.of (s_iconst (n := 1) (v := 1) (by decide +kernel) (by decide)) hG)) (
  e_more (e_Sh.of (e_Sg.of (s_jret (by decide +kernel) rfl) hG)) (
  e_more (e_Sh.of (e_Sg.of (s_iconst (n := 0) (v := 0) (by decide +kernel) (by decide)) hG)) (
  e_more (e_Sh.of (e_Sg.of (s_jret (by decide +kernel) rfl) hG)) (
  e_no_more)))))))))))
def w_L_undo : eW := e_rn tb_L_undo (iL i_L_undo) 1 6
theorem k_L_undo : e_OH e_rf i_L_undo hh_L_undo 1 6 w_L_undo := k_hh (own := RL) ⟨by decide +kernel, rfl⟩ (by decide) (fun _ hG => st_L_undo hG)
theorem q_L_undo {S : eM} {post : eQ} (h : ∀ (P : eQ) (X : eX), (∀ S2, post (some (aI 1)) S2 → X q_IS S2) → (∀ r S2, post (some (aI 0)) (sL S2 15 0 0 r.toInt64) → P (some (aI r)) S2) → x_X4_undo [aR 0 0] S P X) : w_L_undo [aR 0 0, aR 15 0] S post := by
  refine e_walk (stops := []) 20 ?_
  exact ⟨Nat.le_refl _, Nat.le_refl _, h _ _ (fun S2 hp => ⟨12, e_h1_at, hp⟩) (fun r S2 hp => ⟨e_in15, hp⟩)⟩
abbrev i_L_restore : eI := (yL_restore, cL_restore, 3, (some .int), 11)
abbrev hh_L_restore : List (Nat × Nat × Nat × Nat) := [(0, 8, 11, 15)]
theorem cl_L_restore : e_ClH i_L_restore hh_L_restore 2 := ⟨wd_1256, wd_72, ⟨by decide, by decide⟩, by decide +kernel, by decide⟩
def tb_L_restore : eTb := [(0, t_ldO 1 1 0), (1, t_push (.inl 0) 1 1), (2, t_ldO 0 1 2), (3, t_callX 1 1 6 x_X4_restore (e_h1 q_IS 12) 3), (6, t_i1 (fun a => .inr (.inl a.toInt64)) 6), (7, t_last 7), (8, t_goto 14), (12, t_push (.inl 1) 1 12), (13, t_jret), (14, t_push (.inl 0) 1 14), (15, t_jret)]
theorem st_L_restore {G : eG} (hG : gr G = e_rf) : ∀ x ∈ tb_L_restore, e_Sh (tableOf hh_L_restore) G RL i_L_restore x.1 x.2 :=
  e_more (e_Sh.of (e_Sg.of (s_aload_n (k := 1) (by decide +kernel) rfl) hG)) (
  e_more (e_Sh.of (e_Sg.of (s_iconst (n := 0) (v := 0) (by decide +kernel) (by decide)) hG)) (
  e_more (e_Sh.of (e_Sg.of (s_aload_n (k := 0) (by decide +kernel) rfl) hG)) (
  e_more (s_callX (c := 4) (idx := 63) hG kx_X4_restore (by decide +kernel) cl_X4_restore (by decide) wd_1257 wd_1258 wd_1259 (by decide) (e_sfx_rec rfl) (fun E t h => by obtain ⟨rfl, rfl⟩ := e_h1_of h; exact e_ct1 (by decide) (by decide) wd_951 (by decide +kernel) (Or.inl ⟨2, by decide +kernel, by decide, rfl⟩))) (
  e_more (e_Sh.of (e_Sg.of (s_i2l (by decide +kernel)) hG)) (
  e_more (e_Sh.of (e_Sg.of (s_last (by decide +kernel)) hG)) (
  e_more (e_Sh.of (e_Sg.of (s_goto (off := 6) (by decide +kernel) (by decide)) hG)) (
  e_more (e_Sh.of (e_Sg.of (s_iconst (n := 1) (v := 1) (by decide +kernel) (by decide)) hG)) (
  e_more (e_Sh.of (e_Sg.of (s_jret (by decide +kernel) rfl) hG)) (
  e_more (e_Sh.of (e_Sg.of (s_iconst (n := 0) (v := 0) (by decide +kernel) (by decide)) hG)) (
  e_more (e_Sh.of (e_Sg.of (s_jret (by decide +kernel) rfl) hG)) (
  e_no_more)))))))))))
def w_L_restore : eW := e_rn tb_L_restore (iL i_L_restore) 1 6
theorem k_L_restore : e_OH e_rf i_L_restore hh_L_restore 1 6 w_L_restore := k_hh (own := RL) ⟨by decide +kernel, rfl⟩ (by decide) (fun _ hG => st_L_restore hG)
theorem q_L_restore {S : eM} {post : eQ} (h : ∀ (P : eQ) (X : eX), (∀ S2, post (some (aI 1)) S2 → X q_IS S2) → (∀ r S2, post (some (aI 0)) (sL S2 15 0 0 r.toInt64) → P (some (aI r)) S2) → x_X4_restore [aR 0 0] S P X) : w_L_restore [aR 0 0, aR 15 0] S post := by
  refine e_walk (stops := []) 20 ?_
  exact ⟨Nat.le_refl _, Nat.le_refl _, h _ _ (fun S2 hp => ⟨12, e_h1_at, hp⟩) (fun r S2 hp => ⟨e_in15, hp⟩)⟩
abbrev i_L_pupilOf : eI := (yL_pupilOf, cL_pupilOf, 5, (some .int), 11)
abbrev hh_L_pupilOf : List (Nat × Nat × Nat × Nat) := [(0, 10, 13, 24), (0, 10, 17, 13)]
theorem cl_L_pupilOf : e_ClH i_L_pupilOf hh_L_pupilOf 4 := ⟨wd_1264, wd_72, ⟨by decide, by decide⟩, by decide +kernel, by decide⟩
def tb_L_pupilOf : eTb := [(0, t_ldO 3 1 0), (1, t_push (.inl 0) 1 1), (2, t_ldO 0 1 2), (3, t_ldI 1 1 3), (4, t_ldI 2 1 4), (5, t_callX 3 1 6 x_X4_pupilOf (e_h2 q_IO q_IA 15 19) 5), (8, t_i1 (fun a => .inr (.inl a.toInt64)) 8), (9, t_last 9), (10, t_goto 21), (15, t_push (.inl 1) 1 15), (16, t_jret), (19, t_push (.inl 2) 1 19), (20, t_jret), (21, t_push (.inl 0) 1 21), (22, t_jret)]
theorem st_L_pupilOf {G : eG} (hG : gr G = e_rf) : ∀ x ∈ tb_L_pupilOf, e_Sh (tableOf hh_L_pupilOf) G RL i_L_pupilOf x.1 x.2 :=
  e_more (e_Sh.of (e_Sg.of (s_aload_n (k := 3) (by decide +kernel) rfl) hG)) (
  e_more (e_Sh.of (e_Sg.of (s_iconst (n := 0) (v := 0) (by decide +kernel) (by decide)) hG)) (
  e_more (e_Sh.of (e_Sg.of (s_aload_n (k := 0) (by decide +kernel) rfl) hG)) (
  e_more (e_Sh.of (e_Sg.of (s_iload_n (k := 1) (by decide +kernel) rfl) hG)) (
  e_more (e_Sh.of (e_Sg.of (s_iload_n (k := 2) (by decide +kernel) rfl) hG)) (
  e_more (s_callX (c := 4) (idx := 66) hG kx_X4_pupilOf (by decide +kernel) cl_X4_pupilOf (by decide) wd_1265 wd_1266 wd_1267 (by decide) (e_sfx_rec rfl) (fun E t h => by
    rcases e_h2_of h with ⟨rfl, rfl⟩ | ⟨rfl, rfl⟩
    · exact e_ct1 (by decide) (by decide) wd_1015 (by decide +kernel) (Or.inr ⟨4, by decide +kernel, by decide, rfl⟩)
    · exact e_ct2 (by decide) wd_1015 (by decide) (by decide) (by decide) wd_950 (by decide +kernel) (Or.inr ⟨4, by decide +kernel, by decide, rfl⟩))) (
  e_more (e_Sh.of (e_Sg.of (s_i2l (by decide +kernel)) hG)) (
  e_more (e_Sh.of (e_Sg.of (s_last (by decide +kernel)) hG)) (
  e_more (e_Sh.of (e_Sg.of (s_goto (off := 11) (by decide +kernel) (by decide)) hG)) (
  e_more (e_Sh.of (e_Sg.of (s_iconst (n := 1) (v := 1) (by decide +kernel) (by decide)) hG)) (
  e_more (e_Sh.of (e_Sg.of (s_jret (by decide +kernel) rfl) hG)) (
  e_more (e_Sh.of (e_Sg.of (s_iconst (n := 2) (v := 2) (by decide +kernel) (by decide)) hG)) (
  e_more (e_Sh.of (e_Sg.of (s_jret (by decide +kernel) rfl) hG)) (
  e_more (e_Sh.of (e_Sg.of (s_iconst (n := 0) (v := 0) (by decide +kernel) (by decide)) hG)) (
  e_more (e_Sh.of (e_Sg.of (s_jret (by decide +kernel) rfl) hG)) (
  e_no_more)))))))))))))))
def w_L_pupilOf : eW := e_rn tb_L_pupilOf (iL i_L_pupilOf) 1 6
theorem k_L_pupilOf : e_OH e_rf i_L_pupilOf hh_L_pupilOf 1 6 w_L_pupilOf := k_hh (own := RL) ⟨by decide +kernel, rfl⟩ (by decide) (fun _ hG => st_L_pupilOf hG)
theorem q_L_pupilOf {S : eM} {post : eQ} {x y : Int32} (h : ∀ (P : eQ) (X : eX), (∀ S2, post (some (aI 1)) S2 → X q_IO S2) → (∀ S2, post (some (aI 2)) S2 → X q_IA S2) → (∀ r S2, post (some (aI 0)) (sL S2 15 0 0 r.toInt64) → P (some (aI r)) S2) → x_X4_pupilOf [aR 0 0, aI x, aI y] S P X) : w_L_pupilOf [aR 0 0, aI x, aI y, aR 15 0] S post := by
  refine e_walk (stops := []) 20 ?_
  exact ⟨Nat.le_refl _, Nat.le_refl _, h _ _ (fun S2 hp => ⟨15, e_h2_a, hp⟩) (fun S2 hp => ⟨19, e_h2_b (by decide), hp⟩) (fun r S2 hp => ⟨e_in15, hp⟩)⟩
abbrev i_L_instrumentOf : eI := (yL_instrumentOf, cL_instrumentOf, 5, (some .int), 11)
abbrev hh_L_instrumentOf : List (Nat × Nat × Nat × Nat) := [(0, 10, 13, 24), (0, 10, 17, 13)]
theorem cl_L_instrumentOf : e_ClH i_L_instrumentOf hh_L_instrumentOf 4 := ⟨wd_1272, wd_72, ⟨by decide, by decide⟩, by decide +kernel, by decide⟩
def tb_L_instrumentOf : eTb := [(0, t_ldO 3 1 0), (1, t_push (.inl 0) 1 1), (2, t_ldO 0 1 2), (3, t_ldI 1 1 3), (4, t_ldI 2 1 4), (5, t_callX 3 1 6 x_X4_instrumentOf (e_h2 q_IO q_IA 15 19) 5), (8, t_i1 (fun a => .inr (.inl a.toInt64)) 8), (9, t_last 9), (10, t_goto 21), (15, t_push (.inl 1) 1 15), (16, t_jret), (19, t_push (.inl 2) 1 19), (20, t_jret), (21, t_push (.inl 0) 1 21), (22, t_jret)]
theorem st_L_instrumentOf {G : eG} (hG : gr G = e_rf) : ∀ x ∈ tb_L_instrumentOf, e_Sh (tableOf hh_L_instrumentOf) G RL i_L_instrumentOf x.1 x.2 :=
  e_more (e_Sh.of (e_Sg.of (s_aload_n (k := 3) (by decide +kernel) rfl) hG)) (
  e_more (e_Sh.of (e_Sg.of (s_iconst (n := 0) (v := 0) (by decide +kernel) (by decide)) hG)) (
  e_more (e_Sh.of (e_Sg.of (s_aload_n (k := 0) (by decide +kernel) rfl) hG)) (
  e_more (e_Sh.of (e_Sg.of (s_iload_n (k := 1) (by decide +kernel) rfl) hG)) (
  e_more (e_Sh.of (e_Sg.of (s_iload_n (k := 2) (by decide +kernel) rfl) hG)) (
  e_more (s_callX (c := 4) (idx := 69) hG kx_X4_instrumentOf (by decide +kernel) cl_X4_instrumentOf (by decide) wd_1273 wd_1274 wd_1275 (by decide) (e_sfx_rec rfl) (fun E t h => by
    rcases e_h2_of h with ⟨rfl, rfl⟩ | ⟨rfl, rfl⟩
    · exact e_ct1 (by decide) (by decide) wd_1015 (by decide +kernel) (Or.inr ⟨4, by decide +kernel, by decide, rfl⟩)
    · exact e_ct2 (by decide) wd_1015 (by decide) (by decide) (by decide) wd_950 (by decide +kernel) (Or.inr ⟨4, by decide +kernel, by decide, rfl⟩))) (
  e_more (e_Sh.of (e_Sg.of (s_i2l (by decide +kernel)) hG)) (
  e_more (e_Sh.of (e_Sg.of (s_last (by decide +kernel)) hG)) (
  e_more (e_Sh.of (e_Sg.of (s_goto (off := 11) (by decide +kernel) (by decide)) hG)) (
  e_more (e_Sh.of (e_Sg.of (s_iconst (n := 1) (v := 1) (by decide +kernel) (by decide)) hG)) (
  e_more (e_Sh.of (e_Sg.of (s_jret (by decide +kernel) rfl) hG)) (
  e_more (e_Sh.of (e_Sg.of (s_iconst (n := 2) (v := 2) (by decide +kernel) (by decide)) hG)) (
  e_more (e_Sh.of (e_Sg.of (s_jret (by decide +kernel) rfl) hG)) (
  e_more (e_Sh.of (e_Sg.of (s_iconst (n := 0) (v := 0) (by decide +kernel) (by decide)) hG)) (
  e_more (e_Sh.of (e_Sg.of (s_jret (by decide +kernel) rfl) hG)) (
  e_no_more)))))))))))))))
def w_L_instrumentOf : eW := e_rn tb_L_instrumentOf (iL i_L_instrumentOf) 1 6
theorem k_L_instrumentOf : e_OH e_rf i_L_instrumentOf hh_L_instrumentOf 1 6 w_L_instrumentOf := k_hh (own := RL) ⟨by decide +kernel, rfl⟩ (by decide) (fun _ hG => st_L_instrumentOf hG)
theorem q_L_instrumentOf {S : eM} {post : eQ} {x y : Int32} (h : ∀ (P : eQ) (X : eX), (∀ S2, post (some (aI 1)) S2 → X q_IO S2) → (∀ S2, post (some (aI 2)) S2 → X q_IA S2) → (∀ r S2, post (some (aI 0)) (sL S2 15 0 0 r.toInt64) → P (some (aI r)) S2) → x_X4_instrumentOf [aR 0 0, aI x, aI y] S P X) : w_L_instrumentOf [aR 0 0, aI x, aI y, aR 15 0] S post := by
  refine e_walk (stops := []) 20 ?_
  exact ⟨Nat.le_refl _, Nat.le_refl _, h _ _ (fun S2 hp => ⟨15, e_h2_a, hp⟩) (fun S2 hp => ⟨19, e_h2_b (by decide), hp⟩) (fun r S2 hp => ⟨e_in15, hp⟩)⟩
abbrev i_L_loan : eI := (yL_loan, cL_loan, 4, (some .int), 11)
abbrev hh_L_loan : List (Nat × Nat × Nat × Nat) := [(0, 9, 12, 13)]
theorem cl_L_loan : e_ClH i_L_loan hh_L_loan 3 := ⟨wd_1280, wd_72, ⟨by decide, by decide⟩, by decide +kernel, by decide⟩
def tb_L_loan : eTb := [(0, t_ldO 2 1 0), (1, t_push (.inl 0) 1 1), (2, t_ldO 0 1 2), (3, t_ldI 1 1 3), (4, t_callX 2 1 6 x_X4_loan (e_h1 q_IA 13) 4), (7, t_i1 (fun a => .inr (.inl a.toInt64)) 7), (8, t_last 8), (9, t_goto 15), (13, t_push (.inl 1) 1 13), (14, t_jret), (15, t_push (.inl 0) 1 15), (16, t_jret)]
theorem st_L_loan {G : eG} (hG : gr G = e_rf) : ∀ x ∈ tb_L_loan, e_Sh (tableOf hh_L_loan) G RL i_L_loan x.1 x.2 :=
  e_more (e_Sh.of (e_Sg.of (s_aload_n (k := 2) (by decide +kernel) rfl) hG)) (
  e_more (e_Sh.of (e_Sg.of (s_iconst (n := 0) (v := 0) (by decide +kernel) (by decide)) hG)) (
  e_more (e_Sh.of (e_Sg.of (s_aload_n (k := 0) (by decide +kernel) rfl) hG)) (
  e_more (e_Sh.of (e_Sg.of (s_iload_n (k := 1) (by decide +kernel) rfl) hG)) (
  e_more (s_callX (c := 4) (idx := 72) hG kx_X4_loan (by decide +kernel) cl_X4_loan (by decide) wd_1281 wd_1282 wd_1283 (by decide) (e_sfx_rec rfl) (fun E t h => by obtain ⟨rfl, rfl⟩ := e_h1_of h; exact e_ct1 (by decide) (by decide) wd_950 (by decide +kernel) (Or.inl ⟨3, by decide +kernel, by decide, rfl⟩))) (
  e_more (e_Sh.of (e_Sg.of (s_i2l (by decide +kernel)) hG)) (
  e_more (e_Sh.of (e_Sg.of (s_last (by decide +kernel)) hG)) (
  e_more (e_Sh.of (e_Sg.of (s_goto (off := 6) (by decide +kernel) (by decide)) hG)) (
  e_more (e_Sh.of (e_Sg.of (s_iconst (n := 1) (v := 1) (by decide +kernel) (by decide)) hG)) (
  e_more (e_Sh.of (e_Sg.of (s_jret (by decide +kernel) rfl) hG)) (
  e_more (e_Sh.of (e_Sg.of (s_iconst (n := 0) (v := 0) (by decide +kernel) (by decide)) hG)) (
  e_more (e_Sh.of (e_Sg.of (s_jret (by decide +kernel) rfl) hG)) (
  e_no_more))))))))))))
def w_L_loan : eW := e_rn tb_L_loan (iL i_L_loan) 1 6
theorem k_L_loan : e_OH e_rf i_L_loan hh_L_loan 1 6 w_L_loan := k_hh (own := RL) ⟨by decide +kernel, rfl⟩ (by decide) (fun _ hG => st_L_loan hG)
theorem q_L_loan {S : eM} {post : eQ} {x : Int32} (h : ∀ (P : eQ) (X : eX), (∀ S2, post (some (aI 1)) S2 → X q_IA S2) → (∀ r S2, post (some (aI 0)) (sL S2 15 0 0 r.toInt64) → P (some (aI r)) S2) → x_X4_loan [aR 0 0, aI x] S P X) : w_L_loan [aR 0 0, aI x, aR 15 0] S post := by
  refine e_walk (stops := []) 20 ?_
  exact ⟨Nat.le_refl _, Nat.le_refl _, h _ _ (fun S2 hp => ⟨13, e_h1_at, hp⟩) (fun r S2 hp => ⟨e_in15, hp⟩)⟩
abbrev i_L_part : eI := (yL_part, cL_part, 6, (some .int), 11)
abbrev hh_L_part : List (Nat × Nat × Nat × Nat) := [(0, 12, 15, 24), (0, 12, 19, 13)]
theorem cl_L_part : e_ClH i_L_part hh_L_part 5 := ⟨wd_1288, wd_72, ⟨by decide, by decide⟩, by decide +kernel, by decide⟩
def tb_L_part : eTb := [(0, t_ldO 4 2 0), (2, t_push (.inl 0) 1 2), (3, t_ldO 0 1 3), (4, t_ldI 1 1 4), (5, t_ldI 2 1 5), (6, t_ldI 3 1 6), (7, t_callX 4 1 6 x_X4_part (e_h2 q_IO q_IA 17 21) 7), (10, t_i1 (fun a => .inr (.inl a.toInt64)) 10), (11, t_last 11), (12, t_goto 23), (17, t_push (.inl 1) 1 17), (18, t_jret), (21, t_push (.inl 2) 1 21), (22, t_jret), (23, t_push (.inl 0) 1 23), (24, t_jret)]
theorem st_L_part {G : eG} (hG : gr G = e_rf) : ∀ x ∈ tb_L_part, e_Sh (tableOf hh_L_part) G RL i_L_part x.1 x.2 :=
  e_more (e_Sh.of (e_Sg.of (s_aload (by decide +kernel)) hG)) (
  e_more (e_Sh.of (e_Sg.of (s_iconst (n := 0) (v := 0) (by decide +kernel) (by decide)) hG)) (
  e_more (e_Sh.of (e_Sg.of (s_aload_n (k := 0) (by decide +kernel) rfl) hG)) (
  e_more (e_Sh.of (e_Sg.of (s_iload_n (k := 1) (by decide +kernel) rfl) hG)) (
  e_more (e_Sh.of (e_Sg.of (s_iload_n (k := 2) (by decide +kernel) rfl) hG)) (
  e_more (e_Sh.of (e_Sg.of (s_iload_n (k := 3) (by decide +kernel) rfl) hG)) (
  e_more (s_callX (c := 4) (idx := 75) hG kx_X4_part (by decide +kernel) cl_X4_part (by decide) wd_1289 wd_1290 wd_1291 (by decide) (e_sfx_rec rfl) (fun E t h => by
    rcases e_h2_of h with ⟨rfl, rfl⟩ | ⟨rfl, rfl⟩
    · exact e_ct1 (by decide) (by decide) wd_1015 (by decide +kernel) (Or.inr ⟨5, by decide +kernel, by decide, rfl⟩)
    · exact e_ct2 (by decide) wd_1015 (by decide) (by decide) (by decide) wd_950 (by decide +kernel) (Or.inr ⟨5, by decide +kernel, by decide, rfl⟩))) (
  e_more (e_Sh.of (e_Sg.of (s_i2l (by decide +kernel)) hG)) (
  e_more (e_Sh.of (e_Sg.of (s_last (by decide +kernel)) hG)) (
  e_more (e_Sh.of (e_Sg.of (s_goto (off := 11) (by decide +kernel) (by decide)) hG)) (
  e_more (e_Sh.of (e_Sg.of (s_iconst (n := 1) (v := 1) (by decide +kernel) (by decide)) hG)) (
  e_more (e_Sh.of (e_Sg.of (s_jret (by decide +kernel) rfl) hG)) (
  e_more (e_Sh.of (e_Sg.of (s_iconst (n := 2) (v := 2) (by decide +kernel) (by decide)) hG)) (
  e_more (e_Sh.of (e_Sg.of (s_jret (by decide +kernel) rfl) hG)) (
  e_more (e_Sh.of (e_Sg.of (s_iconst (n := 0) (v := 0) (by decide +kernel) (by decide)) hG)) (
  e_more (e_Sh.of (e_Sg.of (s_jret (by decide +kernel) rfl) hG)) (
  e_no_more))))))))))))))))
def w_L_part : eW := e_rn tb_L_part (iL i_L_part) 1 6
theorem k_L_part : e_OH e_rf i_L_part hh_L_part 1 6 w_L_part := k_hh (own := RL) ⟨by decide +kernel, rfl⟩ (by decide) (fun _ hG => st_L_part hG)
theorem q_L_part {S : eM} {post : eQ} {x y z : Int32} (h : ∀ (P : eQ) (X : eX), (∀ S2, post (some (aI 1)) S2 → X q_IO S2) → (∀ S2, post (some (aI 2)) S2 → X q_IA S2) → (∀ r S2, post (some (aI 0)) (sL S2 15 0 0 r.toInt64) → P (some (aI r)) S2) → x_X4_part [aR 0 0, aI x, aI y, aI z] S P X) : w_L_part [aR 0 0, aI x, aI y, aI z, aR 15 0] S post := by
  refine e_walk (stops := []) 20 ?_
  exact ⟨Nat.le_refl _, Nat.le_refl _, h _ _ (fun S2 hp => ⟨17, e_h2_a, hp⟩) (fun S2 hp => ⟨21, e_h2_b (by decide), hp⟩) (fun r S2 hp => ⟨e_in15, hp⟩)⟩
abbrev i_L_count : eI := (yL_count, cL_count, 4, (some .int), 11)
abbrev hh_L_count : List (Nat × Nat × Nat × Nat) := [(0, 9, 12, 13)]
theorem cl_L_count : e_ClH i_L_count hh_L_count 3 := ⟨wd_1301, wd_72, ⟨by decide, by decide⟩, by decide +kernel, by decide⟩
def tb_L_count : eTb := [(0, t_ldO 2 1 0), (1, t_push (.inl 0) 1 1), (2, t_ldO 0 1 2), (3, t_ldI 1 1 3), (4, t_callX 2 1 6 x_X4_count (e_h1 q_IA 13) 4), (7, t_i1 (fun a => .inr (.inl a.toInt64)) 7), (8, t_last 8), (9, t_goto 15), (13, t_push (.inl 1) 1 13), (14, t_jret), (15, t_push (.inl 0) 1 15), (16, t_jret)]
theorem st_L_count {G : eG} (hG : gr G = e_rf) : ∀ x ∈ tb_L_count, e_Sh (tableOf hh_L_count) G RL i_L_count x.1 x.2 :=
  e_more (e_Sh.of (e_Sg.of (s_aload_n (k := 2) (by decide +kernel) rfl) hG)) (
  e_more (e_Sh.of (e_Sg.of (s_iconst (n := 0) (v := 0) (by decide +kernel) (by decide)) hG)) (
  e_more (e_Sh.of (e_Sg.of (s_aload_n (k := 0) (by decide +kernel) rfl) hG)) (
  e_more (e_Sh.of (e_Sg.of (s_iload_n (k := 1) (by decide +kernel) rfl) hG)) (
  e_more (s_callX (c := 4) (idx := 79) hG kx_X4_count (by decide +kernel) cl_X4_count (by decide) wd_1302 wd_1303 wd_1304 (by decide) (e_sfx_rec rfl) (fun E t h => by obtain ⟨rfl, rfl⟩ := e_h1_of h; exact e_ct1 (by decide) (by decide) wd_950 (by decide +kernel) (Or.inl ⟨3, by decide +kernel, by decide, rfl⟩))) (
  e_more (e_Sh.of (e_Sg.of (s_i2l (by decide +kernel)) hG)) (
  e_more (e_Sh.of (e_Sg.of (s_last (by decide +kernel)) hG)) (
  e_more (e_Sh.of (e_Sg.of (s_goto (off := 6) (by decide +kernel) (by decide)) hG)) (
  e_more (e_Sh.of (e_Sg.of (s_iconst (n := 1) (v := 1) (by decide +kernel) (by decide)) hG)) (
  e_more (e_Sh.of (e_Sg.of (s_jret (by decide +kernel) rfl) hG)) (
  e_more (e_Sh.of (e_Sg.of (s_iconst (n := 0) (v := 0) (by decide +kernel) (by decide)) hG)) (
  e_more (e_Sh.of (e_Sg.of (s_jret (by decide +kernel) rfl) hG)) (
  e_no_more))))))))))))
def w_L_count : eW := e_rn tb_L_count (iL i_L_count) 1 6
theorem k_L_count : e_OH e_rf i_L_count hh_L_count 1 6 w_L_count := k_hh (own := RL) ⟨by decide +kernel, rfl⟩ (by decide) (fun _ hG => st_L_count hG)
theorem q_L_count {S : eM} {post : eQ} {x : Int32} (h : ∀ (P : eQ) (X : eX), (∀ S2, post (some (aI 1)) S2 → X q_IA S2) → (∀ r S2, post (some (aI 0)) (sL S2 15 0 0 r.toInt64) → P (some (aI r)) S2) → x_X4_count [aR 0 0, aI x] S P X) : w_L_count [aR 0 0, aI x, aR 15 0] S post := by
  refine e_walk (stops := []) 20 ?_
  exact ⟨Nat.le_refl _, Nat.le_refl _, h _ _ (fun S2 hp => ⟨13, e_h1_at, hp⟩) (fun r S2 hp => ⟨e_in15, hp⟩)⟩
abbrev i_L_noLoan : eI := (yL_noLoan, cL_noLoan, 5, (some .int), 11)
abbrev hh_L_noLoan : List (Nat × Nat × Nat × Nat) := [(0, 10, 13, 24)]
theorem cl_L_noLoan : e_ClH i_L_noLoan hh_L_noLoan 4 := ⟨wd_1309, wd_72, ⟨by decide, by decide⟩, by decide +kernel, by decide⟩
def tb_L_noLoan : eTb := [(0, t_ldO 3 1 0), (1, t_push (.inl 0) 1 1), (2, t_ldO 0 1 2), (3, t_ldI 1 1 3), (4, t_ldI 2 1 4), (5, t_callX 3 1 6 x_X4_noLoan (e_h1 q_IO 15) 5), (8, t_i1 (fun a => .inr (.inl a.toInt64)) 8), (9, t_last 9), (10, t_goto 17), (15, t_push (.inl 1) 1 15), (16, t_jret), (17, t_push (.inl 0) 1 17), (18, t_jret)]
theorem st_L_noLoan {G : eG} (hG : gr G = e_rf) : ∀ x ∈ tb_L_noLoan, e_Sh (tableOf hh_L_noLoan) G RL i_L_noLoan x.1 x.2 :=
  e_more (e_Sh.of (e_Sg.of (s_aload_n (k := 3) (by decide +kernel) rfl) hG)) (
  e_more (e_Sh.of (e_Sg.of (s_iconst (n := 0) (v := 0) (by decide +kernel) (by decide)) hG)) (
  e_more (e_Sh.of (e_Sg.of (s_aload_n (k := 0) (by decide +kernel) rfl) hG)) (
  e_more (e_Sh.of (e_Sg.of (s_iload_n (k := 1) (by decide +kernel) rfl) hG)) (
  e_more (e_Sh.of (e_Sg.of (s_iload_n (k := 2) (by decide +kernel) rfl) hG)) (
  e_more (s_callX (c := 4) (idx := 82) hG kx_X4_noLoan (by decide +kernel) cl_X4_noLoan (by decide) wd_1310 wd_1311 wd_1312 (by decide) (e_sfx_rec rfl) (fun E t h => by obtain ⟨rfl, rfl⟩ := e_h1_of h; exact e_ct1 (by decide) (by decide) wd_1015 (by decide +kernel) (Or.inr ⟨4, by decide +kernel, by decide, rfl⟩))) (
  e_more (e_Sh.of (e_Sg.of (s_i2l (by decide +kernel)) hG)) (
  e_more (e_Sh.of (e_Sg.of (s_last (by decide +kernel)) hG)) (
  e_more (e_Sh.of (e_Sg.of (s_goto (off := 7) (by decide +kernel) (by decide)) hG)) (
  e_more (e_Sh.of (e_Sg.of (s_iconst (n := 1) (v := 1) (by decide +kernel) (by decide)) hG)) (
  e_more (e_Sh.of (e_Sg.of (s_jret (by decide +kernel) rfl) hG)) (
  e_more (e_Sh.of (e_Sg.of (s_iconst (n := 0) (v := 0) (by decide +kernel) (by decide)) hG)) (
  e_more (e_Sh.of (e_Sg.of (s_jret (by decide +kernel) rfl) hG)) (
  e_no_more)))))))))))))
def w_L_noLoan : eW := e_rn tb_L_noLoan (iL i_L_noLoan) 1 6
theorem k_L_noLoan : e_OH e_rf i_L_noLoan hh_L_noLoan 1 6 w_L_noLoan := k_hh (own := RL) ⟨by decide +kernel, rfl⟩ (by decide) (fun _ hG => st_L_noLoan hG)
theorem q_L_noLoan {S : eM} {post : eQ} {x y : Int32} (h : ∀ (P : eQ) (X : eX), (∀ S2, post (some (aI 1)) S2 → X q_IO S2) → (∀ r S2, post (some (aI 0)) (sL S2 15 0 0 r.toInt64) → P (some (aI r)) S2) → x_X4_noLoan [aR 0 0, aI x, aI y] S P X) : w_L_noLoan [aR 0 0, aI x, aI y, aR 15 0] S post := by
  refine e_walk (stops := []) 20 ?_
  exact ⟨Nat.le_refl _, Nat.le_refl _, h _ _ (fun S2 hp => ⟨15, e_h1_at, hp⟩) (fun r S2 hp => ⟨e_in15, hp⟩)⟩
abbrev i_L_noLesson : eI := (yL_noLesson, cL_noLesson, 5, (some .int), 11)
abbrev hh_L_noLesson : List (Nat × Nat × Nat × Nat) := [(0, 10, 13, 24)]
theorem cl_L_noLesson : e_ClH i_L_noLesson hh_L_noLesson 4 := ⟨wd_1316, wd_72, ⟨by decide, by decide⟩, by decide +kernel, by decide⟩
def tb_L_noLesson : eTb := [(0, t_ldO 3 1 0), (1, t_push (.inl 0) 1 1), (2, t_ldO 0 1 2), (3, t_ldI 1 1 3), (4, t_ldI 2 1 4), (5, t_callX 3 1 6 x_X4_noLesson (e_h1 q_IO 15) 5), (8, t_i1 (fun a => .inr (.inl a.toInt64)) 8), (9, t_last 9), (10, t_goto 17), (15, t_push (.inl 1) 1 15), (16, t_jret), (17, t_push (.inl 0) 1 17), (18, t_jret)]
theorem st_L_noLesson {G : eG} (hG : gr G = e_rf) : ∀ x ∈ tb_L_noLesson, e_Sh (tableOf hh_L_noLesson) G RL i_L_noLesson x.1 x.2 :=
  e_more (e_Sh.of (e_Sg.of (s_aload_n (k := 3) (by decide +kernel) rfl) hG)) (
  e_more (e_Sh.of (e_Sg.of (s_iconst (n := 0) (v := 0) (by decide +kernel) (by decide)) hG)) (
  e_more (e_Sh.of (e_Sg.of (s_aload_n (k := 0) (by decide +kernel) rfl) hG)) (
  e_more (e_Sh.of (e_Sg.of (s_iload_n (k := 1) (by decide +kernel) rfl) hG)) (
  e_more (e_Sh.of (e_Sg.of (s_iload_n (k := 2) (by decide +kernel) rfl) hG)) (
  e_more (s_callX (c := 4) (idx := 85) hG kx_X4_noLesson (by decide +kernel) cl_X4_noLesson (by decide) wd_1317 wd_1318 wd_1319 (by decide) (e_sfx_rec rfl) (fun E t h => by obtain ⟨rfl, rfl⟩ := e_h1_of h; exact e_ct1 (by decide) (by decide) wd_1015 (by decide +kernel) (Or.inr ⟨4, by decide +kernel, by decide, rfl⟩))) (
  e_more (e_Sh.of (e_Sg.of (s_i2l (by decide +kernel)) hG)) (
  e_more (e_Sh.of (e_Sg.of (s_last (by decide +kernel)) hG)) (
  e_more (e_Sh.of (e_Sg.of (s_goto (off := 7) (by decide +kernel) (by decide)) hG)) (
  e_more (e_Sh.of (e_Sg.of (s_iconst (n := 1) (v := 1) (by decide +kernel) (by decide)) hG)) (
  e_more (e_Sh.of (e_Sg.of (s_jret (by decide +kernel) rfl) hG)) (
  e_more (e_Sh.of (e_Sg.of (s_iconst (n := 0) (v := 0) (by decide +kernel) (by decide)) hG)) (
  e_more (e_Sh.of (e_Sg.of (s_jret (by decide +kernel) rfl) hG)) (
  e_no_more)))))))))))))
def w_L_noLesson : eW := e_rn tb_L_noLesson (iL i_L_noLesson) 1 6
theorem k_L_noLesson : e_OH e_rf i_L_noLesson hh_L_noLesson 1 6 w_L_noLesson := k_hh (own := RL) ⟨by decide +kernel, rfl⟩ (by decide) (fun _ hG => st_L_noLesson hG)
theorem q_L_noLesson {S : eM} {post : eQ} {x y : Int32} (h : ∀ (P : eQ) (X : eX), (∀ S2, post (some (aI 1)) S2 → X q_IO S2) → (∀ r S2, post (some (aI 0)) (sL S2 15 0 0 r.toInt64) → P (some (aI r)) S2) → x_X4_noLesson [aR 0 0, aI x, aI y] S P X) : w_L_noLesson [aR 0 0, aI x, aI y, aR 15 0] S post := by
  refine e_walk (stops := []) 20 ?_
  exact ⟨Nat.le_refl _, Nat.le_refl _, h _ _ (fun S2 hp => ⟨15, e_h1_at, hp⟩) (fun r S2 hp => ⟨e_in15, hp⟩)⟩
abbrev i_L_shortOf : eI := (yL_shortOf, cL_shortOf, 4, (some .int), 11)
abbrev hh_L_shortOf : List (Nat × Nat × Nat × Nat) := [(0, 9, 12, 24)]
theorem cl_L_shortOf : e_ClH i_L_shortOf hh_L_shortOf 3 := ⟨wd_1323, wd_72, ⟨by decide, by decide⟩, by decide +kernel, by decide⟩
def tb_L_shortOf : eTb := [(0, t_ldO 2 1 0), (1, t_push (.inl 0) 1 1), (2, t_ldO 0 1 2), (3, t_ldI 1 1 3), (4, t_callX 2 1 6 x_X4_shortOf (e_h1 q_IO 13) 4), (7, t_i1 (fun a => .inr (.inl a.toInt64)) 7), (8, t_last 8), (9, t_goto 15), (13, t_push (.inl 1) 1 13), (14, t_jret), (15, t_push (.inl 0) 1 15), (16, t_jret)]
theorem st_L_shortOf {G : eG} (hG : gr G = e_rf) : ∀ x ∈ tb_L_shortOf, e_Sh (tableOf hh_L_shortOf) G RL i_L_shortOf x.1 x.2 :=
  e_more (e_Sh.of (e_Sg.of (s_aload_n (k := 2) (by decide +kernel) rfl) hG)) (
  e_more (e_Sh.of (e_Sg.of (s_iconst (n := 0) (v := 0) (by decide +kernel) (by decide)) hG)) (
  e_more (e_Sh.of (e_Sg.of (s_aload_n (k := 0) (by decide +kernel) rfl) hG)) (
  e_more (e_Sh.of (e_Sg.of (s_iload_n (k := 1) (by decide +kernel) rfl) hG)) (
  e_more (s_callX (c := 4) (idx := 88) hG kx_X4_shortOf (by decide +kernel) cl_X4_shortOf (by decide) wd_1324 wd_1325 wd_1326 (by decide) (e_sfx_rec rfl) (fun E t h => by obtain ⟨rfl, rfl⟩ := e_h1_of h; exact e_ct1 (by decide) (by decide) wd_1015 (by decide +kernel) (Or.inl ⟨3, by decide +kernel, by decide, rfl⟩))) (
  e_more (e_Sh.of (e_Sg.of (s_i2l (by decide +kernel)) hG)) (
  e_more (e_Sh.of (e_Sg.of (s_last (by decide +kernel)) hG)) (
  e_more (e_Sh.of (e_Sg.of (s_goto (off := 6) (by decide +kernel) (by decide)) hG)) (
  e_more (e_Sh.of (e_Sg.of (s_iconst (n := 1) (v := 1) (by decide +kernel) (by decide)) hG)) (
  e_more (e_Sh.of (e_Sg.of (s_jret (by decide +kernel) rfl) hG)) (
  e_more (e_Sh.of (e_Sg.of (s_iconst (n := 0) (v := 0) (by decide +kernel) (by decide)) hG)) (
  e_more (e_Sh.of (e_Sg.of (s_jret (by decide +kernel) rfl) hG)) (
  e_no_more))))))))))))
def w_L_shortOf : eW := e_rn tb_L_shortOf (iL i_L_shortOf) 1 6
theorem k_L_shortOf : e_OH e_rf i_L_shortOf hh_L_shortOf 1 6 w_L_shortOf := k_hh (own := RL) ⟨by decide +kernel, rfl⟩ (by decide) (fun _ hG => st_L_shortOf hG)
theorem q_L_shortOf {S : eM} {post : eQ} {x : Int32} (h : ∀ (P : eQ) (X : eX), (∀ S2, post (some (aI 1)) S2 → X q_IO S2) → (∀ r S2, post (some (aI 0)) (sL S2 15 0 0 r.toInt64) → P (some (aI r)) S2) → x_X4_shortOf [aR 0 0, aI x] S P X) : w_L_shortOf [aR 0 0, aI x, aR 15 0] S post := by
  refine e_walk (stops := []) 20 ?_
  exact ⟨Nat.le_refl _, Nat.le_refl _, h _ _ (fun S2 hp => ⟨13, e_h1_at, hp⟩) (fun r S2 hp => ⟨e_in15, hp⟩)⟩
abbrev i_L_most : eI := (yL_most, cL_most, 4, (some .int), 11)
abbrev hh_L_most : List (Nat × Nat × Nat × Nat) := [(0, 9, 12, 24)]
theorem cl_L_most : e_ClH i_L_most hh_L_most 3 := ⟨wd_1330, wd_72, ⟨by decide, by decide⟩, by decide +kernel, by decide⟩
def tb_L_most : eTb := [(0, t_ldO 2 1 0), (1, t_push (.inl 0) 1 1), (2, t_ldO 0 1 2), (3, t_ldI 1 1 3), (4, t_callX 2 1 6 x_X4_most (e_h1 q_IO 13) 4), (7, t_i1 (fun a => .inr (.inl a.toInt64)) 7), (8, t_last 8), (9, t_goto 15), (13, t_push (.inl 1) 1 13), (14, t_jret), (15, t_push (.inl 0) 1 15), (16, t_jret)]
theorem st_L_most {G : eG} (hG : gr G = e_rf) : ∀ x ∈ tb_L_most, e_Sh (tableOf hh_L_most) G RL i_L_most x.1 x.2 :=
  e_more (e_Sh.of (e_Sg.of (s_aload_n (k := 2) (by decide +kernel) rfl) hG)) (
  e_more (e_Sh.of (e_Sg.of (s_iconst (n := 0) (v := 0) (by decide +kernel) (by decide)) hG)) (
  e_more (e_Sh.of (e_Sg.of (s_aload_n (k := 0) (by decide +kernel) rfl) hG)) (
  e_more (e_Sh.of (e_Sg.of (s_iload_n (k := 1) (by decide +kernel) rfl) hG)) (
  e_more (s_callX (c := 4) (idx := 91) hG kx_X4_most (by decide +kernel) cl_X4_most (by decide) wd_1331 wd_1332 wd_1333 (by decide) (e_sfx_rec rfl) (fun E t h => by obtain ⟨rfl, rfl⟩ := e_h1_of h; exact e_ct1 (by decide) (by decide) wd_1015 (by decide +kernel) (Or.inl ⟨3, by decide +kernel, by decide, rfl⟩))) (
  e_more (e_Sh.of (e_Sg.of (s_i2l (by decide +kernel)) hG)) (
  e_more (e_Sh.of (e_Sg.of (s_last (by decide +kernel)) hG)) (
  e_more (e_Sh.of (e_Sg.of (s_goto (off := 6) (by decide +kernel) (by decide)) hG)) (
  e_more (e_Sh.of (e_Sg.of (s_iconst (n := 1) (v := 1) (by decide +kernel) (by decide)) hG)) (
  e_more (e_Sh.of (e_Sg.of (s_jret (by decide +kernel) rfl) hG)) (
  e_more (e_Sh.of (e_Sg.of (s_iconst (n := 0) (v := 0) (by decide +kernel) (by decide)) hG)) (
  e_more (e_Sh.of (e_Sg.of (s_jret (by decide +kernel) rfl) hG)) (
  e_no_more))))))))))))
def w_L_most : eW := e_rn tb_L_most (iL i_L_most) 1 6
theorem k_L_most : e_OH e_rf i_L_most hh_L_most 1 6 w_L_most := k_hh (own := RL) ⟨by decide +kernel, rfl⟩ (by decide) (fun _ hG => st_L_most hG)
theorem q_L_most {S : eM} {post : eQ} {x : Int32} (h : ∀ (P : eQ) (X : eX), (∀ S2, post (some (aI 1)) S2 → X q_IO S2) → (∀ r S2, post (some (aI 0)) (sL S2 15 0 0 r.toInt64) → P (some (aI r)) S2) → x_X4_most [aR 0 0, aI x] S P X) : w_L_most [aR 0 0, aI x, aR 15 0] S post := by
  refine e_walk (stops := []) 20 ?_
  exact ⟨Nat.le_refl _, Nat.le_refl _, h _ _ (fun S2 hp => ⟨13, e_h1_at, hp⟩) (fun r S2 hp => ⟨e_in15, hp⟩)⟩
abbrev i_L_helps : eI := (yL_helps, cL_helps, 5, (some .int), 11)
abbrev hh_L_helps : List (Nat × Nat × Nat × Nat) := [(0, 10, 13, 24)]
theorem cl_L_helps : e_ClH i_L_helps hh_L_helps 4 := ⟨wd_1337, wd_72, ⟨by decide, by decide⟩, by decide +kernel, by decide⟩
def tb_L_helps : eTb := [(0, t_ldO 3 1 0), (1, t_push (.inl 0) 1 1), (2, t_ldO 0 1 2), (3, t_ldI 1 1 3), (4, t_ldI 2 1 4), (5, t_callX 3 1 6 x_X4_helps (e_h1 q_IO 15) 5), (8, t_i1 (fun a => .inr (.inl a.toInt64)) 8), (9, t_last 9), (10, t_goto 17), (15, t_push (.inl 1) 1 15), (16, t_jret), (17, t_push (.inl 0) 1 17), (18, t_jret)]
theorem st_L_helps {G : eG} (hG : gr G = e_rf) : ∀ x ∈ tb_L_helps, e_Sh (tableOf hh_L_helps) G RL i_L_helps x.1 x.2 :=
  e_more (e_Sh.of (e_Sg.of (s_aload_n (k := 3) (by decide +kernel) rfl) hG)) (
  e_more (e_Sh.of (e_Sg.of (s_iconst (n := 0) (v := 0) (by decide +kernel) (by decide)) hG)) (
  e_more (e_Sh.of (e_Sg.of (s_aload_n (k := 0) (by decide +kernel) rfl) hG)) (
  e_more (e_Sh.of (e_Sg.of (s_iload_n (k := 1) (by decide +kernel) rfl) hG)) (
  e_more (e_Sh.of (e_Sg.of (s_iload_n (k := 2) (by decide +kernel) rfl) hG)) (
  e_more (s_callX (c := 4) (idx := 94) hG kx_X4_helps (by decide +kernel) cl_X4_helps (by decide) wd_1338 wd_1339 wd_1340 (by decide) (e_sfx_rec rfl) (fun E t h => by obtain ⟨rfl, rfl⟩ := e_h1_of h; exact e_ct1 (by decide) (by decide) wd_1015 (by decide +kernel) (Or.inr ⟨4, by decide +kernel, by decide, rfl⟩))) (
  e_more (e_Sh.of (e_Sg.of (s_i2l (by decide +kernel)) hG)) (
  e_more (e_Sh.of (e_Sg.of (s_last (by decide +kernel)) hG)) (
  e_more (e_Sh.of (e_Sg.of (s_goto (off := 7) (by decide +kernel) (by decide)) hG)) (
  e_more (e_Sh.of (e_Sg.of (s_iconst (n := 1) (v := 1) (by decide +kernel) (by decide)) hG)) (
  e_more (e_Sh.of (e_Sg.of (s_jret (by decide +kernel) rfl) hG)) (
  e_more (e_Sh.of (e_Sg.of (s_iconst (n := 0) (v := 0) (by decide +kernel) (by decide)) hG)) (
  e_more (e_Sh.of (e_Sg.of (s_jret (by decide +kernel) rfl) hG)) (
  e_no_more)))))))))))))
def w_L_helps : eW := e_rn tb_L_helps (iL i_L_helps) 1 6
theorem k_L_helps : e_OH e_rf i_L_helps hh_L_helps 1 6 w_L_helps := k_hh (own := RL) ⟨by decide +kernel, rfl⟩ (by decide) (fun _ hG => st_L_helps hG)
theorem q_L_helps {S : eM} {post : eQ} {x y : Int32} (h : ∀ (P : eQ) (X : eX), (∀ S2, post (some (aI 1)) S2 → X q_IO S2) → (∀ r S2, post (some (aI 0)) (sL S2 15 0 0 r.toInt64) → P (some (aI r)) S2) → x_X4_helps [aR 0 0, aI x, aI y] S P X) : w_L_helps [aR 0 0, aI x, aI y, aR 15 0] S post := by
  refine e_walk (stops := []) 20 ?_
  exact ⟨Nat.le_refl _, Nat.le_refl _, h _ _ (fun S2 hp => ⟨15, e_h1_at, hp⟩) (fun r S2 hp => ⟨e_in15, hp⟩)⟩
