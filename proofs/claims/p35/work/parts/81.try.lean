/-! The wrappers of the law: tables, readings, what they come to. By program (wip/p35/genlaw.py). Own work. -/
/-- a call of a method with handlers, as any step -/
theorem e_SdSH {rf : Nat → Nat → Nat → Option (Nat × Nat)} {own : String} {M : eI} {pc : Nat} {T : eTr} (h : ∀ G : eG, gr G = rf → e_Sg G own M pc T) : e_Sd rf own M pc T := fun G mc ms p e R s m args below meth c Q S0 Qc Qx hG => h G hG mc ms p e R s m args below meth c Q S0 Qc Qx
abbrev i_L_tryLend : eI := (yL_tryLend, cL_tryLend, 4, (some .int), 11)
abbrev hh_L_tryLend : List (Nat × Nat × Nat × Nat) := [(0, 6, 7, 16), (0, 6, 12, 18)]
theorem cl_L_tryLend : e_ClH i_L_tryLend hh_L_tryLend 3 := ⟨wd_945, wd_14, ⟨by decide, by decide⟩, by decide +kernel, by decide⟩
def tb_L_tryLend : eTb := [(0, t_ldO 0 1 0), (1, t_ldI 1 1 1), (2, t_ldI 2 1 2), (3, t_callX 3 1 6 x_X4_lend (e_h2 q_IO q_IS 8 13) 3), (6, t_jret), (8, t_push (.inl (-7001)) 3 8), (11, t_jret), (13, t_push (.inl (-7002)) 3 13), (16, t_jret)]
theorem st_L_tryLend {G : eG} (hG : gr G = e_rf) : ∀ x ∈ tb_L_tryLend, e_Sh (tableOf hh_L_tryLend) G RL i_L_tryLend x.1 x.2 :=
  e_more (e_Sh.of (e_Sg.of (s_aload_n (k := 0) (by decide +kernel) rfl) hG)) (
  e_more (e_Sh.of (e_Sg.of (s_iload_n (k := 1) (by decide +kernel) rfl) hG)) (
  e_more (e_Sh.of (e_Sg.of (s_iload_n (k := 2) (by decide +kernel) rfl) hG)) (
  e_more (s_callX (c := 4) (idx := 10) hG kx_X4_lend (by decide +kernel) cl_X4_lend (by decide) wd_948 wd_949 wd_950 (by decide) (e_sfx_rec rfl) (fun E t h => by
    rcases e_h2_of h with ⟨rfl, rfl⟩ | ⟨rfl, rfl⟩
    · exact e_ct1 (by decide) (by decide) wd_946 (by decide +kernel) (Or.inl ⟨3, by decide +kernel, by decide, rfl⟩)
    · exact e_ct2 (by decide) wd_946 (by decide) (by decide) (by decide) wd_947 (by decide +kernel) (Or.inl ⟨3, by decide +kernel, by decide, rfl⟩))) (
  e_more (e_Sh.of (e_Sg.of (s_jret (by decide +kernel) rfl) hG)) (
  e_more (e_Sh.of (e_Sg.of (s_sipush (n := (-7001)) (v := (-7001)) (by decide +kernel) (by decide)) hG)) (
  e_more (e_Sh.of (e_Sg.of (s_jret (by decide +kernel) rfl) hG)) (
  e_more (e_Sh.of (e_Sg.of (s_sipush (n := (-7002)) (v := (-7002)) (by decide +kernel) (by decide)) hG)) (
  e_more (e_Sh.of (e_Sg.of (s_jret (by decide +kernel) rfl) hG)) (
  e_no_more)))))))))
def w_L_tryLend : eW := e_rn tb_L_tryLend (iL i_L_tryLend) 1 6
theorem k_L_tryLend : e_OH e_rf i_L_tryLend hh_L_tryLend 1 6 w_L_tryLend := k_hh (own := RL) ⟨by decide +kernel, rfl⟩ (by decide) (fun _ hG => st_L_tryLend hG)
theorem q_L_tryLend {S : eM} {post : eQ} {x y : Int32} (h : ∀ (P : eQ) (X : eX), (∀ S2, post (some (aI (-7001))) S2 → X q_IO S2) → (∀ S2, post (some (aI (-7002))) S2 → X q_IS S2) → (∀ r S2, post (some (aI r)) S2 → P (some (aI r)) S2) → x_X4_lend [aR 0 0, aI x, aI y] S P X) : w_L_tryLend [aR 0 0, aI x, aI y] S post := by
  refine e_walk (stops := []) 20 ?_
  exact ⟨Nat.le_refl _, Nat.le_refl _, h _ _ (fun S2 hp => ⟨8, e_h2_a, hp⟩) (fun S2 hp => ⟨13, e_h2_b (by decide), hp⟩) (fun r S2 hp => hp)⟩
abbrev i_L_tryTeach : eI := (yL_tryTeach, cL_tryTeach, 4, (some .int), 11)
abbrev hh_L_tryTeach : List (Nat × Nat × Nat × Nat) := [(0, 6, 7, 16), (0, 6, 12, 18)]
theorem cl_L_tryTeach : e_ClH i_L_tryTeach hh_L_tryTeach 3 := ⟨wd_1047, wd_14, ⟨by decide, by decide⟩, by decide +kernel, by decide⟩
def tb_L_tryTeach : eTb := [(0, t_ldO 0 1 0), (1, t_ldI 1 1 1), (2, t_ldI 2 1 2), (3, t_callX 3 1 6 x_X4_teach (e_h2 q_IO q_IS 8 13) 3), (6, t_jret), (8, t_push (.inl (-7001)) 3 8), (11, t_jret), (13, t_push (.inl (-7002)) 3 13), (16, t_jret)]
theorem st_L_tryTeach {G : eG} (hG : gr G = e_rf) : ∀ x ∈ tb_L_tryTeach, e_Sh (tableOf hh_L_tryTeach) G RL i_L_tryTeach x.1 x.2 :=
  e_more (e_Sh.of (e_Sg.of (s_aload_n (k := 0) (by decide +kernel) rfl) hG)) (
  e_more (e_Sh.of (e_Sg.of (s_iload_n (k := 1) (by decide +kernel) rfl) hG)) (
  e_more (e_Sh.of (e_Sg.of (s_iload_n (k := 2) (by decide +kernel) rfl) hG)) (
  e_more (s_callX (c := 4) (idx := 20) hG kx_X4_teach (by decide +kernel) cl_X4_teach (by decide) wd_1048 wd_1049 wd_1050 (by decide) (e_sfx_rec rfl) (fun E t h => by
    rcases e_h2_of h with ⟨rfl, rfl⟩ | ⟨rfl, rfl⟩
    · exact e_ct1 (by decide) (by decide) wd_946 (by decide +kernel) (Or.inl ⟨3, by decide +kernel, by decide, rfl⟩)
    · exact e_ct2 (by decide) wd_946 (by decide) (by decide) (by decide) wd_947 (by decide +kernel) (Or.inl ⟨3, by decide +kernel, by decide, rfl⟩))) (
  e_more (e_Sh.of (e_Sg.of (s_jret (by decide +kernel) rfl) hG)) (
  e_more (e_Sh.of (e_Sg.of (s_sipush (n := (-7001)) (v := (-7001)) (by decide +kernel) (by decide)) hG)) (
  e_more (e_Sh.of (e_Sg.of (s_jret (by decide +kernel) rfl) hG)) (
  e_more (e_Sh.of (e_Sg.of (s_sipush (n := (-7002)) (v := (-7002)) (by decide +kernel) (by decide)) hG)) (
  e_more (e_Sh.of (e_Sg.of (s_jret (by decide +kernel) rfl) hG)) (
  e_no_more)))))))))
def w_L_tryTeach : eW := e_rn tb_L_tryTeach (iL i_L_tryTeach) 1 6
theorem k_L_tryTeach : e_OH e_rf i_L_tryTeach hh_L_tryTeach 1 6 w_L_tryTeach := k_hh (own := RL) ⟨by decide +kernel, rfl⟩ (by decide) (fun _ hG => st_L_tryTeach hG)
theorem q_L_tryTeach {S : eM} {post : eQ} {x y : Int32} (h : ∀ (P : eQ) (X : eX), (∀ S2, post (some (aI (-7001))) S2 → X q_IO S2) → (∀ S2, post (some (aI (-7002))) S2 → X q_IS S2) → (∀ r S2, post (some (aI r)) S2 → P (some (aI r)) S2) → x_X4_teach [aR 0 0, aI x, aI y] S P X) : w_L_tryTeach [aR 0 0, aI x, aI y] S post := by
  refine e_walk (stops := []) 20 ?_
  exact ⟨Nat.le_refl _, Nat.le_refl _, h _ _ (fun S2 hp => ⟨8, e_h2_a, hp⟩) (fun S2 hp => ⟨13, e_h2_b (by decide), hp⟩) (fun r S2 hp => hp)⟩
abbrev i_L_tryMarch : eI := (yL_tryMarch, cL_tryMarch, 3, (some .int), 11)
abbrev hh_L_tryMarch : List (Nat × Nat × Nat × Nat) := [(0, 5, 6, 16), (0, 5, 11, 18)]
theorem cl_L_tryMarch : e_ClH i_L_tryMarch hh_L_tryMarch 2 := ⟨wd_1077, wd_14, ⟨by decide, by decide⟩, by decide +kernel, by decide⟩
def tb_L_tryMarch : eTb := [(0, t_ldO 0 1 0), (1, t_ldI 1 1 1), (2, t_callX 2 1 6 x_X4_march (e_h2 q_IO q_IS 7 12) 2), (5, t_jret), (7, t_push (.inl (-7001)) 3 7), (10, t_jret), (12, t_push (.inl (-7002)) 3 12), (15, t_jret)]
theorem st_L_tryMarch {G : eG} (hG : gr G = e_rf) : ∀ x ∈ tb_L_tryMarch, e_Sh (tableOf hh_L_tryMarch) G RL i_L_tryMarch x.1 x.2 :=
  e_more (e_Sh.of (e_Sg.of (s_aload_n (k := 0) (by decide +kernel) rfl) hG)) (
  e_more (e_Sh.of (e_Sg.of (s_iload_n (k := 1) (by decide +kernel) rfl) hG)) (
  e_more (s_callX (c := 4) (idx := 23) hG kx_X4_march (by decide +kernel) cl_X4_march (by decide) wd_1078 wd_1079 wd_1080 (by decide) (e_sfx_rec rfl) (fun E t h => by
    rcases e_h2_of h with ⟨rfl, rfl⟩ | ⟨rfl, rfl⟩
    · exact e_ct1 (by decide) (by decide) wd_946 (by decide +kernel) (Or.inl ⟨2, by decide +kernel, by decide, rfl⟩)
    · exact e_ct2 (by decide) wd_946 (by decide) (by decide) (by decide) wd_947 (by decide +kernel) (Or.inl ⟨2, by decide +kernel, by decide, rfl⟩))) (
  e_more (e_Sh.of (e_Sg.of (s_jret (by decide +kernel) rfl) hG)) (
  e_more (e_Sh.of (e_Sg.of (s_sipush (n := (-7001)) (v := (-7001)) (by decide +kernel) (by decide)) hG)) (
  e_more (e_Sh.of (e_Sg.of (s_jret (by decide +kernel) rfl) hG)) (
  e_more (e_Sh.of (e_Sg.of (s_sipush (n := (-7002)) (v := (-7002)) (by decide +kernel) (by decide)) hG)) (
  e_more (e_Sh.of (e_Sg.of (s_jret (by decide +kernel) rfl) hG)) (
  e_no_more))))))))
def w_L_tryMarch : eW := e_rn tb_L_tryMarch (iL i_L_tryMarch) 1 6
theorem k_L_tryMarch : e_OH e_rf i_L_tryMarch hh_L_tryMarch 1 6 w_L_tryMarch := k_hh (own := RL) ⟨by decide +kernel, rfl⟩ (by decide) (fun _ hG => st_L_tryMarch hG)
theorem q_L_tryMarch {S : eM} {post : eQ} {x : Int32} (h : ∀ (P : eQ) (X : eX), (∀ S2, post (some (aI (-7001))) S2 → X q_IO S2) → (∀ S2, post (some (aI (-7002))) S2 → X q_IS S2) → (∀ r S2, post (some (aI r)) S2 → P (some (aI r)) S2) → x_X4_march [aR 0 0, aI x] S P X) : w_L_tryMarch [aR 0 0, aI x] S post := by
  refine e_walk (stops := []) 20 ?_
  exact ⟨Nat.le_refl _, Nat.le_refl _, h _ _ (fun S2 hp => ⟨7, e_h2_a, hp⟩) (fun S2 hp => ⟨12, e_h2_b (by decide), hp⟩) (fun r S2 hp => hp)⟩
abbrev i_L_tryBack : eI := (yL_tryBack, cL_tryBack, 3, (some .int), 11)
abbrev hh_L_tryBack : List (Nat × Nat × Nat × Nat) := [(0, 5, 6, 16), (0, 5, 11, 18)]
theorem cl_L_tryBack : e_ClH i_L_tryBack hh_L_tryBack 2 := ⟨wd_960, wd_14, ⟨by decide, by decide⟩, by decide +kernel, by decide⟩
def tb_L_tryBack : eTb := [(0, t_ldO 0 1 0), (1, t_ldI 1 1 1), (2, t_callX 2 1 6 x_X4_back (e_h2 q_IO q_IS 7 12) 2), (5, t_jret), (7, t_push (.inl (-7001)) 3 7), (10, t_jret), (12, t_push (.inl (-7002)) 3 12), (15, t_jret)]
theorem st_L_tryBack {G : eG} (hG : gr G = e_rf) : ∀ x ∈ tb_L_tryBack, e_Sh (tableOf hh_L_tryBack) G RL i_L_tryBack x.1 x.2 :=
  e_more (e_Sh.of (e_Sg.of (s_aload_n (k := 0) (by decide +kernel) rfl) hG)) (
  e_more (e_Sh.of (e_Sg.of (s_iload_n (k := 1) (by decide +kernel) rfl) hG)) (
  e_more (s_callX (c := 4) (idx := 27) hG kx_X4_back (by decide +kernel) cl_X4_back (by decide) wd_961 wd_962 wd_963 (by decide) (e_sfx_rec rfl) (fun E t h => by
    rcases e_h2_of h with ⟨rfl, rfl⟩ | ⟨rfl, rfl⟩
    · exact e_ct1 (by decide) (by decide) wd_946 (by decide +kernel) (Or.inl ⟨2, by decide +kernel, by decide, rfl⟩)
    · exact e_ct2 (by decide) wd_946 (by decide) (by decide) (by decide) wd_947 (by decide +kernel) (Or.inl ⟨2, by decide +kernel, by decide, rfl⟩))) (
  e_more (e_Sh.of (e_Sg.of (s_jret (by decide +kernel) rfl) hG)) (
  e_more (e_Sh.of (e_Sg.of (s_sipush (n := (-7001)) (v := (-7001)) (by decide +kernel) (by decide)) hG)) (
  e_more (e_Sh.of (e_Sg.of (s_jret (by decide +kernel) rfl) hG)) (
  e_more (e_Sh.of (e_Sg.of (s_sipush (n := (-7002)) (v := (-7002)) (by decide +kernel) (by decide)) hG)) (
  e_more (e_Sh.of (e_Sg.of (s_jret (by decide +kernel) rfl) hG)) (
  e_no_more))))))))
def w_L_tryBack : eW := e_rn tb_L_tryBack (iL i_L_tryBack) 1 6
theorem k_L_tryBack : e_OH e_rf i_L_tryBack hh_L_tryBack 1 6 w_L_tryBack := k_hh (own := RL) ⟨by decide +kernel, rfl⟩ (by decide) (fun _ hG => st_L_tryBack hG)
theorem q_L_tryBack {S : eM} {post : eQ} {x : Int32} (h : ∀ (P : eQ) (X : eX), (∀ S2, post (some (aI (-7001))) S2 → X q_IO S2) → (∀ S2, post (some (aI (-7002))) S2 → X q_IS S2) → (∀ r S2, post (some (aI r)) S2 → P (some (aI r)) S2) → x_X4_back [aR 0 0, aI x] S P X) : w_L_tryBack [aR 0 0, aI x] S post := by
  refine e_walk (stops := []) 20 ?_
  exact ⟨Nat.le_refl _, Nat.le_refl _, h _ _ (fun S2 hp => ⟨7, e_h2_a, hp⟩) (fun S2 hp => ⟨12, e_h2_b (by decide), hp⟩) (fun r S2 hp => hp)⟩
abbrev i_L_tryMend : eI := (yL_tryMend, cL_tryMend, 3, (some .int), 11)
abbrev hh_L_tryMend : List (Nat × Nat × Nat × Nat) := [(0, 5, 6, 16), (0, 5, 11, 18)]
theorem cl_L_tryMend : e_ClH i_L_tryMend hh_L_tryMend 2 := ⟨wd_983, wd_14, ⟨by decide, by decide⟩, by decide +kernel, by decide⟩
def tb_L_tryMend : eTb := [(0, t_ldO 0 1 0), (1, t_ldI 1 1 1), (2, t_callX 2 1 6 x_X4_mend (e_h2 q_IO q_IS 7 12) 2), (5, t_jret), (7, t_push (.inl (-7001)) 3 7), (10, t_jret), (12, t_push (.inl (-7002)) 3 12), (15, t_jret)]
theorem st_L_tryMend {G : eG} (hG : gr G = e_rf) : ∀ x ∈ tb_L_tryMend, e_Sh (tableOf hh_L_tryMend) G RL i_L_tryMend x.1 x.2 :=
  e_more (e_Sh.of (e_Sg.of (s_aload_n (k := 0) (by decide +kernel) rfl) hG)) (
  e_more (e_Sh.of (e_Sg.of (s_iload_n (k := 1) (by decide +kernel) rfl) hG)) (
  e_more (s_callX (c := 4) (idx := 30) hG kx_X4_mend (by decide +kernel) cl_X4_mend (by decide) wd_984 wd_985 wd_986 (by decide) (e_sfx_rec rfl) (fun E t h => by
    rcases e_h2_of h with ⟨rfl, rfl⟩ | ⟨rfl, rfl⟩
    · exact e_ct1 (by decide) (by decide) wd_946 (by decide +kernel) (Or.inl ⟨2, by decide +kernel, by decide, rfl⟩)
    · exact e_ct2 (by decide) wd_946 (by decide) (by decide) (by decide) wd_947 (by decide +kernel) (Or.inl ⟨2, by decide +kernel, by decide, rfl⟩))) (
  e_more (e_Sh.of (e_Sg.of (s_jret (by decide +kernel) rfl) hG)) (
  e_more (e_Sh.of (e_Sg.of (s_sipush (n := (-7001)) (v := (-7001)) (by decide +kernel) (by decide)) hG)) (
  e_more (e_Sh.of (e_Sg.of (s_jret (by decide +kernel) rfl) hG)) (
  e_more (e_Sh.of (e_Sg.of (s_sipush (n := (-7002)) (v := (-7002)) (by decide +kernel) (by decide)) hG)) (
  e_more (e_Sh.of (e_Sg.of (s_jret (by decide +kernel) rfl) hG)) (
  e_no_more))))))))
def w_L_tryMend : eW := e_rn tb_L_tryMend (iL i_L_tryMend) 1 6
theorem k_L_tryMend : e_OH e_rf i_L_tryMend hh_L_tryMend 1 6 w_L_tryMend := k_hh (own := RL) ⟨by decide +kernel, rfl⟩ (by decide) (fun _ hG => st_L_tryMend hG)
theorem q_L_tryMend {S : eM} {post : eQ} {x : Int32} (h : ∀ (P : eQ) (X : eX), (∀ S2, post (some (aI (-7001))) S2 → X q_IO S2) → (∀ S2, post (some (aI (-7002))) S2 → X q_IS S2) → (∀ r S2, post (some (aI r)) S2 → P (some (aI r)) S2) → x_X4_mend [aR 0 0, aI x] S P X) : w_L_tryMend [aR 0 0, aI x] S post := by
  refine e_walk (stops := []) 20 ?_
  exact ⟨Nat.le_refl _, Nat.le_refl _, h _ _ (fun S2 hp => ⟨7, e_h2_a, hp⟩) (fun S2 hp => ⟨12, e_h2_b (by decide), hp⟩) (fun r S2 hp => hp)⟩
