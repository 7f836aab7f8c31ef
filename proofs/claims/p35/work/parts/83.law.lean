/-! The script's cells; the law itself: tables. By program (wip/p35/genlaw.py). Own work. -/
abbrev i_L_cell : eI := (yL_cell, cL_cell, 2, (some .int), 0)
theorem cl_L_cell : e_Cl i_L_cell 2 := ⟨wd_395, wd_14, ⟨by decide, by decide⟩, by decide +kernel, by decide⟩
def tb_L_cell (L : Nat) (xs : Nat → Int32) : eTb := [(0, t_ldI 1 1 0), (1, t_ldO 0 1 1), (2, t_xlen L 2), (3, t_ic (fun a b => b ≤ a) 12 3), (6, t_ldO 0 1 6), (7, t_ldI 1 1 7), (8, t_xald L xs 8), (9, t_goto 21), (12, t_push (.inl 902289889) 2 12), (14, t_ldI 1 1 14), (15, t_push (.inl 5) 1 15), (16, t_ii (fun a b => a + b) 16), (17, t_ii (fun a b => a * b) 17), (18, t_push (.inl 714192883) 2 18), (20, t_ii (fun a b => a + b) 20), (21, t_jret)]
theorem st_L_cell {G : eG} (hG : gr G = e_rf) : ∀ x ∈ tb_L_cell (gn G) (gx G), e_Sg G RL i_L_cell x.1 x.2 :=
  e_more (e_Sg.of (s_iload_n (k := 1) (by decide +kernel) rfl) hG) (
  e_more (e_Sg.of (s_aload_n (k := 0) (by decide +kernel) rfl) hG) (
  e_more (s_xlen (pc := 2) (by decide +kernel)) (
  e_more (e_Sg.of (s_ic_ge (off := 9) (by decide +kernel) (by decide)) hG) (
  e_more (e_Sg.of (s_aload_n (k := 0) (by decide +kernel) rfl) hG) (
  e_more (e_Sg.of (s_iload_n (k := 1) (by decide +kernel) rfl) hG) (
  e_more (s_xald (pc := 8) (by decide +kernel)) (
  e_more (e_Sg.of (s_goto (off := 12) (by decide +kernel) (by decide)) hG) (
  e_more (e_Sg.of (s_ldc (i := 7) (v := 902289889) (by decide +kernel) wd_396) hG) (
  e_more (e_Sg.of (s_iload_n (k := 1) (by decide +kernel) rfl) hG) (
  e_more (e_Sg.of (s_iconst (n := 5) (v := 5) (by decide +kernel) (by decide)) hG) (
  e_more (e_Sg.of (s_iadd (by decide +kernel)) hG) (
  e_more (e_Sg.of (s_imul (by decide +kernel)) hG) (
  e_more (e_Sg.of (s_ldc (i := 8) (v := 714192883) (by decide +kernel) wd_397) hG) (
  e_more (e_Sg.of (s_iadd (by decide +kernel)) hG) (
  e_more (e_Sg.of (s_jret (by decide +kernel) rfl) hG) (
  e_no_more))))))))))))))))
/-- a contract out of a walk under one setting -/
theorem e_madeG {own : String} {M : eI} {mc ms : Nat} {tb : eTb} (hM : plainName (iN M).cls = true ∧ (iN M).cls = own) {rf : Nat → Nat → Nat → Option (Nat × Nat)} {G : eG} (hG : e_gd rf G) (htb : ∀ x ∈ tb, e_Sg G own M x.1 x.2) {As : List eV} {S : eM} {post : eQ} {X : eX} (hln : Nat.ble (e_l1 As).length (iL M) = true) (hr : e_Run tb post X 0 (e_l0 As (iL M)) [] S mc ms) : e_Ct G M mc ms As S post X := by
  intro hlive hok
  refine vx_ofW (cc := iB M) (maxL := iL M) (ret := iT M) hM.1 rfl ?_
  intro p e s m args below meth c s₁ B hml ht hv
  obtain ⟨rfl, hSt, hgb, hW⟩ := hv
  have hts : ∀ w ∈ e_ws M, w.before _ s = true := atoms_spec (ws := e_ws M) B.pre
  have hown : s.vm.findClass own = some m.cls := hM.2 ▸ findClass_of_methodNamed B.named
  have hC : e_Cx G own M mc ms p (e_rm (iD M) mc ms) s m (As.map (e_cv G S)).toArray meth c := ⟨B.exec, B.bytes, hml, hown, fun w hw => hts w (List.mem_cons_of_mem _ hw), hSt, hgb, Nat.le_refl _, Nat.le_refl _, rfl, rfl, fun h => ((name_of_methodNamed B.named B.method).1).trans h, hG.2⟩
  have hl := lv_entry (As.map (e_cv G S)) (n := iL M) (by rw [e_l1_len]; exact Nat.le_of_ble_eq_true hln)
  rw [lg_entry_eq]
  generalize (lg_sl (As.map (e_cv G S)) ++ List.replicate (iL M - (lg_sl (As.map (e_cv G S))).length) Slot.unset).toArray = ls at hl ⊢
  exact hr (e_WM G M mc ms p e (e_rm (iD M) mc ms) s m (As.map (e_cv G S)).toArray below meth c (vx_MQ below (e_Qc G S post) (e_Xc G S X) (As.map (e_cv G S)).toArray s mc ms (e_A G)) S)
    (fun x hx K hK => htb x hx mc ms p e (e_rm (iD M) mc ms) s m _ below meth c _ S post X hC (e_Rt_of B.exec B.bytes B.returns B.notSynchronized) (e_Th_of hG.2 hC B.notSynchronized ht) K hK)
    (fun pc lc l2 st S2 bc bs h2 hw H locs ls cells slots a1 a2 a3 a4 a5 a6 a7 => hw H locs ls cells slots a1 a2 ⟨a3.1, a3.2.1, fun i v hv => a3.2.2 i v (h2 i v hv)⟩ ⟨fun w hw => by
      obtain ⟨i, hi⟩ := List.getElem?_of_mem hw
      exact a4.1 w (List.mem_of_getElem? (h2 i w hi)), a4.2⟩ a5 a6 a7)
    s.heap [] ls 0 0 hW va_S.rf (e_lv0 hl) ⟨e_l0_live hlive, fun v hv => absurd hv List.not_mem_nil⟩ e_le.rf (Nat.zero_add _) (Nat.zero_add _)
/-- a cell of the script, or what stands in its place: some number -/
def w_L_cell : eW := fun As S post => (∃ k, k < 65536 ∧ As = [aR 23 0, aI (nI k)]) ∧ ∀ x, post (some (aI x)) S
theorem k_L_cell : e_OK e_rf i_L_cell 0 0 w_L_cell := by
  intro G hG As S post h
  obtain ⟨⟨k, hk, rfl⟩, hp⟩ := h
  refine e_madeG (own := RL) ⟨by decide +kernel, rfl⟩ hG (st_L_cell hG.1) (by rfl) ?_
  refine e_walk (stops := [3]) 10 ?_
  refine ⟨⟨rfl, rfl⟩, ?_⟩
  refine e_walk (stops := []) 20 ?_
  exact And.intro (fun _ => hp _) (fun c => ⟨⟨rfl, rfl⟩, fun z => z.elim (nI_pos (by omega)) (fun y => c (nI_le (by rw [nI_clamp (by omega)] at y; exact y) (by omega))), hp _⟩)
abbrev i_L_law : eI := (yL_law, cL_law, 4, some .boolean, 14)
def tb_LA (L : Nat) (xs : Nat → Int32) : eTb := [(0, t_new 4 0), (3, t_dup 3), (4, t_call 1 207 1411 w_X4_init 4)]
theorem st_LA {G : eG} (hG : gr G = e_r0) : ∀ x ∈ tb_LA (gn G) (gx G), e_Sg G RL i_L_law x.1 x.2 :=
  e_more (e_Sg.of (s_new (c := 4) (idx := 11) (by decide +kernel) (by decide) wd_39 wd_40 wd_15 (fun _ _ _ => rfl)) hG) (
  e_more (e_Sg.of (s_dup (by decide +kernel)) hG) (
  e_more (e_Sg.of (s_callI (idx := 143) k_X4_init (by decide +kernel) cl_X4_init wd_41 wd_42 ⟨rfl, rfl⟩ (e_sf_rec0 rfl) (by decide)) hG) (
  e_no_more)))
def tb_LB (L : Nat) (xs : Nat → Int32) : eTb := [(7, t_stO 1 1 7), (8, t_ldO 1 1 8), (9, t_call 1 2332 106152 w_L_holds 9), (12, t_if (fun a => a = 0) 38 12), (15, t_ldO 1 1 15), (16, t_call0 1 w_X4_bestMarch 16), (19, t_ifn (fun a => a = 0) 38 19), (22, t_ldO 1 1 22), (23, t_push (.inl 3) 1 23), (24, t_call 2 1 6 nw_X4_most 24), (27, t_ifn (fun a => a = 0) 38 27), (30, t_ldO 1 1 30), (31, t_push (.inl 2) 1 31), (32, t_call 2 296 19056 w_L_isText 32), (35, t_ifn (fun a => a = 0) 40 35), (38, t_push (.inl 0) 1 38), (39, t_zret), (40, t_push (.inl 0) 1 40), (41, t_stI 2 1 41), (42, t_ldI 2 1 42), (43, t_push (.inl 50) 2 43), (45, t_ic (fun a b => b ≤ a) 108 45), (48, t_ldI 2 1 48), (49, t_push (.inl 8) 2 49), (51, t_ic (fun a b => b ≤ a) 68 51), (54, t_ldI 2 1 54), (55, t_push (.inl 2) 1 55), (56, t_idv (fun a b => a - a / b * b) 56), (57, t_ifn (fun a => a = 0) 64 57), (60, t_push (.inl 0) 1 60), (61, t_goto 75), (64, t_push (.inl 2) 1 64), (65, t_goto 75), (68, t_ldO 0 1 68), (69, t_push (.inl 2) 1 69), (70, t_ldI 2 1 70), (71, t_ii (fun a b => a * b) 71), (72, t_call0 2 w_L_cell 72), (75, t_stI 3 1 75), (76, t_ldO 1 1 76), (77, t_ldI 3 1 77), (78, t_ldO 0 1 78), (79, t_push (.inl 2) 1 79), (80, t_ldI 2 1 80), (81, t_ii (fun a b => a * b) 81), (82, t_push (.inl 1) 1 82), (83, t_ii (fun a b => a + b) 83), (84, t_call0 2 w_L_cell 84), (87, t_call 3 366 19476 w_L_act 87), (90, t_if (fun a => a = 0) 100 90), (93, t_ldO 1 1 93), (94, t_call 1 2332 106152 w_L_holds 94), (97, t_ifn (fun a => a = 0) 102 97), (100, t_push (.inl 0) 1 100), (101, t_zret), (102, t_iinc 2 1 102), (105, t_goto 42), (108, t_ldO 1 1 108), (109, t_push (.inl 0) 1 109), (110, t_call 2 296 19056 w_L_isText 110), (113, t_if (fun a => a = 0) 128 113), (116, t_ldO 1 1 116), (117, t_push (.inl 3) 1 117), (118, t_call 2 296 19056 w_L_isText 118), (121, t_if (fun a => a = 0) 128 121), (124, t_push (.inl 1) 1 124), (125, t_goto 129), (128, t_push (.inl 0) 1 128), (129, t_zret)]
theorem st_LB {G : eG} (hG : gr G = e_rf) : ∀ x ∈ tb_LB (gn G) (gx G), e_Sg G RL i_L_law x.1 x.2 :=
  e_more (e_Sg.of (s_astore_n (k := 1) (by decide +kernel) rfl (by decide)) hG) (
  e_more (e_Sg.of (s_aload_n (k := 1) (by decide +kernel) rfl) hG) (
  e_more (e_Sg.of (s_callS (idx := 144) k_L_holds (by decide +kernel) cl_L_holds wd_743 wd_744 (by decide)) hG) (
  e_more (e_Sg.of (s_if_eq (off := 26) (by decide +kernel) (by decide)) hG) (
  e_more (e_Sg.of (s_aload_n (k := 1) (by decide +kernel) rfl) hG) (
  e_more (e_Sg.of (e_call0 (s_callV (c := 4) (idx := 67) k_X4_bestMarch (by decide +kernel) cl_X4_bestMarch (by decide) rfl wd_367 wd_368 wd_369 (by decide) (e_sf_rec rfl))) hG) (
  e_more (e_Sg.of (s_if_ne (off := 19) (by decide +kernel) (by decide)) hG) (
  e_more (e_Sg.of (s_aload_n (k := 1) (by decide +kernel) rfl) hG) (
  e_more (e_Sg.of (s_iconst (n := 3) (v := 3) (by decide +kernel) (by decide)) hG) (
  e_more (e_Sg.of (s_callV (c := 4) (idx := 46) nk_X4_most (by decide +kernel) cl_X4_most (by decide) rfl wd_250 wd_251 wd_252 (by decide) nr_X4_most) hG) (
  e_more (e_Sg.of (s_if_ne (off := 11) (by decide +kernel) (by decide)) hG) (
  e_more (e_Sg.of (s_aload_n (k := 1) (by decide +kernel) rfl) hG) (
  e_more (e_Sg.of (s_iconst (n := 2) (v := 2) (by decide +kernel) (by decide)) hG) (
  e_more (e_Sg.of (s_callS (idx := 131) k_L_isText (by decide +kernel) cl_L_isText wd_398 wd_399 (by decide)) hG) (
  e_more (e_Sg.of (s_if_ne (off := 5) (by decide +kernel) (by decide)) hG) (
  e_more (e_Sg.of (s_iconst (n := 0) (v := 0) (by decide +kernel) (by decide)) hG) (
  e_more (e_Sg.of (s_zret (by decide +kernel) rfl) hG) (
  e_more (e_Sg.of (s_iconst (n := 0) (v := 0) (by decide +kernel) (by decide)) hG) (
  e_more (e_Sg.of (s_istore_n (k := 2) (by decide +kernel) rfl (by decide)) hG) (
  e_more (e_Sg.of (s_iload_n (k := 2) (by decide +kernel) rfl) hG) (
  e_more (e_Sg.of (s_bipush (n := 50) (v := 50) (by decide +kernel) (by decide)) hG) (
  e_more (e_Sg.of (s_ic_ge (off := 63) (by decide +kernel) (by decide)) hG) (
  e_more (e_Sg.of (s_iload_n (k := 2) (by decide +kernel) rfl) hG) (
  e_more (e_Sg.of (s_bipush (n := 8) (v := 8) (by decide +kernel) (by decide)) hG) (
  e_more (e_Sg.of (s_ic_ge (off := 17) (by decide +kernel) (by decide)) hG) (
  e_more (e_Sg.of (s_iload_n (k := 2) (by decide +kernel) rfl) hG) (
  e_more (e_Sg.of (s_iconst (n := 2) (v := 2) (by decide +kernel) (by decide)) hG) (
  e_more (e_Sg.of (s_irem (by decide +kernel)) hG) (
  e_more (e_Sg.of (s_if_ne (off := 7) (by decide +kernel) (by decide)) hG) (
  e_more (e_Sg.of (s_iconst (n := 0) (v := 0) (by decide +kernel) (by decide)) hG) (
  e_more (e_Sg.of (s_goto (off := 14) (by decide +kernel) (by decide)) hG) (
  e_more (e_Sg.of (s_iconst (n := 2) (v := 2) (by decide +kernel) (by decide)) hG) (
  e_more (e_Sg.of (s_goto (off := 10) (by decide +kernel) (by decide)) hG) (
  e_more (e_Sg.of (s_aload_n (k := 0) (by decide +kernel) rfl) hG) (
  e_more (e_Sg.of (s_iconst (n := 2) (v := 2) (by decide +kernel) (by decide)) hG) (
  e_more (e_Sg.of (s_iload_n (k := 2) (by decide +kernel) rfl) hG) (
  e_more (e_Sg.of (s_imul (by decide +kernel)) hG) (
  e_more (e_Sg.of (e_call0 (s_callS (idx := 147) k_L_cell (by decide +kernel) cl_L_cell wd_393 wd_394 (by decide))) hG) (
  e_more (e_Sg.of (s_istore_n (k := 3) (by decide +kernel) rfl (by decide)) hG) (
  e_more (e_Sg.of (s_aload_n (k := 1) (by decide +kernel) rfl) hG) (
  e_more (e_Sg.of (s_iload_n (k := 3) (by decide +kernel) rfl) hG) (
  e_more (e_Sg.of (s_aload_n (k := 0) (by decide +kernel) rfl) hG) (
  e_more (e_Sg.of (s_iconst (n := 2) (v := 2) (by decide +kernel) (by decide)) hG) (
  e_more (e_Sg.of (s_iload_n (k := 2) (by decide +kernel) rfl) hG) (
  e_more (e_Sg.of (s_imul (by decide +kernel)) hG) (
  e_more (e_Sg.of (s_iconst (n := 1) (v := 1) (by decide +kernel) (by decide)) hG) (
  e_more (e_Sg.of (s_iadd (by decide +kernel)) hG) (
  e_more (e_Sg.of (e_call0 (s_callS (idx := 147) k_L_cell (by decide +kernel) cl_L_cell wd_393 wd_394 (by decide))) hG) (
  e_more (e_Sg.of (s_callS (idx := 151) k_L_act (by decide +kernel) cl_L_act wd_868 wd_869 (by decide)) hG) (
  e_more (e_Sg.of (s_if_eq (off := 10) (by decide +kernel) (by decide)) hG) (
  e_more (e_Sg.of (s_aload_n (k := 1) (by decide +kernel) rfl) hG) (
  e_more (e_Sg.of (s_callS (idx := 144) k_L_holds (by decide +kernel) cl_L_holds wd_743 wd_744 (by decide)) hG) (
  e_more (e_Sg.of (s_if_ne (off := 5) (by decide +kernel) (by decide)) hG) (
  e_more (e_Sg.of (s_iconst (n := 0) (v := 0) (by decide +kernel) (by decide)) hG) (
  e_more (e_Sg.of (s_zret (by decide +kernel) rfl) hG) (
  e_more (e_Sg.of (s_iinc (z := 1) (n := 1) (by decide +kernel) (by decide) (by decide)) hG) (
  e_more (e_Sg.of (s_goto (off := (-63)) (by decide +kernel) (by decide)) hG) (
  e_more (e_Sg.of (s_aload_n (k := 1) (by decide +kernel) rfl) hG) (
  e_more (e_Sg.of (s_iconst (n := 0) (v := 0) (by decide +kernel) (by decide)) hG) (
  e_more (e_Sg.of (s_callS (idx := 131) k_L_isText (by decide +kernel) cl_L_isText wd_398 wd_399 (by decide)) hG) (
  e_more (e_Sg.of (s_if_eq (off := 15) (by decide +kernel) (by decide)) hG) (
  e_more (e_Sg.of (s_aload_n (k := 1) (by decide +kernel) rfl) hG) (
  e_more (e_Sg.of (s_iconst (n := 3) (v := 3) (by decide +kernel) (by decide)) hG) (
  e_more (e_Sg.of (s_callS (idx := 131) k_L_isText (by decide +kernel) cl_L_isText wd_398 wd_399 (by decide)) hG) (
  e_more (e_Sg.of (s_if_eq (off := 7) (by decide +kernel) (by decide)) hG) (
  e_more (e_Sg.of (s_iconst (n := 1) (v := 1) (by decide +kernel) (by decide)) hG) (
  e_more (e_Sg.of (s_goto (off := 4) (by decide +kernel) (by decide)) hG) (
  e_more (e_Sg.of (s_iconst (n := 0) (v := 0) (by decide +kernel) (by decide)) hG) (
  e_more (e_Sg.of (s_zret (by decide +kernel) rfl) hG) (
  e_no_more)))))))))))))))))))))))))))))))))))))))))))))))))))))))))))))))))))))
