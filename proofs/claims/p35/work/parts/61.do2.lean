/-! What walks come to: the system's calls that change it, 2. Own work. -/
section Do2
variable {S S1 S2 : eM} {post : eQ} {X : eX} {v sp : qV} {sv : Nat → qV} {sn ln n : Nat} {tk : Bool} {tx : Nat → Int32} {B b np ni nl : Nat} {a a2 : Nat → Nat}
theorem q_X4_dent {x y : Int32} (hB : q_B S 0 v np ni nl) (hi : q_inv B v np ni nl) (hR : q_ho S sv sn sp tk tx ln B a) (h : q_cft S v sv sn sp tk tx ln B post X (q_dentE ni x y) q_IO q_IA (q_dn v x.toNatClampNeg y) (q_dents v x.toNatClampNeg y)) : x_X4_dent [aR 0 0, aI x, aI y] S post X := by
  obtain ⟨h1, h2, h0⟩ := h
  have hnp := hi.1.1
  have hni := hi.1.2.1
  have hnl := hi.1.2.2.1
  refine e_walk (stops := [8]) 20 ?_
  refine q_X0_instrumentAt hB.1.2.1 hni (fun i ii e => ?_) (fun z => ?_)
  case refine_2 => exact e_walk (stops := []) 20 ⟨rfl, Nat.le_refl 1, Nat.le_refl 6, h1 (by unfold q_dentE; rw [z]; rfl)⟩
  subst e
  have hE : q_dentE ni (nI i) y = cond (q_rg 1 9 y) 0 2 := by
    unfold q_dentE
    rw [q_ix_mk (by omega) ii]; rfl
  rw [nI_clamp (by omega)] at h0
  refine e_walk (stops := [48]) 20 ?_
  refine And.intro (fun c => ⟨rfl, Nat.le_refl 1, Nat.le_refl 6, h2 (by rw [hE, q_rg_f1 c]; rfl)⟩) (fun c => And.intro (fun c2 => ?_) (fun c2 => ⟨rfl, Nat.le_refl 1, Nat.le_refl 6, h2 (by rw [hE, q_rg_f2 c2]; rfl)⟩))
  rw [q_rg_t c c2] at hE
  obtain ⟨n, n1, n2, rfl⟩ := q_rgN (lo := 1) (hi := 9) (by decide) (by decide) c c2
  refine q_X4_save hR hB hi (fun S2 a2 w2 hB2 hR2 => ?_)
  refine e_walk (stops := [53]) 20 ?_
  refine q_X1_addDents ?_
  obtain ⟨k, d, l, ⟨e0, e1, e2⟩, ⟨f0, f1, f2⟩, -⟩ := hi.2.2.1 i ii
  have hl : q_its v i 2 ≠ 0 → 0 < q_its v i 2 := fun c1 => by
    rw [e2] at c1 ⊢
    exact Decidable.byContradiction (fun z => c1 ((q_nI0p (by omega)).mpr z))
  obtain ⟨f3, hB3⟩ := q_B_dents (y := nI n) hnp hni hnl hB2 ii hl
  have er : q_mn2 9 (mI S2 3 (10 * 0 + i) 1 + nI n) = q_dn v i (nI n) := by rw [q_dn_mn, (hB2.it ii).2.1]
  rw [er] at f3 hB3 ⊢
  refine e_walk (stops := [57]) 20 ?_
  show e_Run tb_X4_dent post X 57 [some (aR 0 0), some (aI (nI i)), some (aI (nI n)), some (aR 3 (10 * 0 + i))] [aI (mI (sI S2 3 (10 * 0 + i) 1 (q_dn v i (nI n))) 3 (10 * 0 + i) 1)] (sI S2 3 (10 * 0 + i) 1 (q_dn v i (nI n))) 1 6
  rw [q_s_self]
  refine e_walk (stops := []) 20 ?_
  exact h0 hE _ (w2.trans (q_w.fb f3)) ⟨_, _, _, a2, hB3, q_inv_dents hi ii n2, hR2.fb f3⟩
theorem q_X4_pay {x y : Int32} (hB : q_B S 0 v np ni nl) (hi : q_inv B v np ni nl) (hR : q_ho S sv sn sp tk tx ln B a) (h : q_cft S v sv sn sp tk tx ln B post X (q_payE np x y) q_IO q_IA (q_pays v x.toNatClampNeg y) (q_pay v x.toNatClampNeg y)) : x_X4_pay [aR 0 0, aI x, aI y] S post X := by
  obtain ⟨h1, h2, h0⟩ := h
  have hnp := hi.1.1
  refine e_walk (stops := [8]) 20 ?_
  refine q_X0_pupilAt hB.1.1 hnp (fun p pp e => ?_) (fun z => ?_)
  case refine_2 => exact e_walk (stops := []) 20 ⟨rfl, Nat.le_refl 1, Nat.le_refl 6, h1 (by unfold q_payE; rw [z]; rfl)⟩
  subst e
  have hE : q_payE np (nI p) y = cond (q_rg 1 999 y) 0 2 := by
    unfold q_payE
    rw [q_ix_mk (by omega) pp]; rfl
  rw [nI_clamp (by omega)] at h0
  refine e_walk (stops := [49]) 20 ?_
  refine And.intro (fun c => ⟨rfl, Nat.le_refl 1, Nat.le_refl 6, h2 (by rw [hE, q_rg_f1 c]; rfl)⟩) (fun c => And.intro (fun c2 => ?_) (fun c2 => ⟨rfl, Nat.le_refl 1, Nat.le_refl 6, h2 (by rw [hE, q_rg_f2 c2]; rfl)⟩))
  rw [q_rg_t c c2] at hE
  refine q_X4_save hR hB hi (fun S2 a2 w2 hB2 hR2 => ?_)
  refine e_walk (stops := [58]) 20 ?_
  refine q_X0_takePayment hi hB2 pp (fun S3 f3 hB3 => ?_)
  refine e_walk (stops := []) 20 ?_
  exact h0 hE _ (w2.trans (q_w.fb f3)) ⟨_, _, _, a2, hB3, q_inv_pay hi pp, hR2.fb f3⟩
theorem q_hgh : ∀ k, k < 3 → e_hs k = (if nI k = 0 then 50 else if nI k = 1 then 200 else 99) := by decide
theorem q_X4_set {x y : Int32} (hB : q_B S 0 v np ni nl) (hi : q_inv B v np ni nl) (hR : q_ho S sv sn sp tk tx ln B a) (h : q_cft S v sv sn sp tk tx ln B post X (q_setE x y) q_IO q_IA (v (13 + x.toNatClampNeg)) (upd v (13 + x.toNatClampNeg) y)) : x_X4_set [aR 0 0, aI x, aI y] S post X := by
  obtain ⟨h1, h2, h0⟩ := h
  have hnp := hi.1.1
  have hni := hi.1.2.1
  have hnl := hi.1.2.2.1
  refine e_walk (stops := [8]) 20 ?_
  refine q_X0_isSetting ?_
  cases z : q_ix x 3 with
  | false =>
    refine e_walk (stops := []) 20 ?_
    exact And.intro (fun _ => ⟨rfl, Nat.le_refl 1, Nat.le_refl 6, h1 (by unfold q_setE; rw [z]; rfl)⟩) (fun c => absurd rfl c)
  | true =>
    obtain ⟨k, hk, rfl⟩ := q_ix_of (by decide) z
    have hE : q_setE (nI k) y = cond (q_rg 0 (e_hs k) y) 0 2 := by
      unfold q_setE
      rw [z, q_hgh k hk]; rfl
    rw [nI_clamp (by omega)] at h0
    refine e_walk (stops := [34]) 20 ?_
    refine And.intro (fun c => absurd c (by decide)) (fun _ => And.intro (fun c => ⟨rfl, Nat.le_refl 1, Nat.le_refl 6, h2 (by rw [hE, q_rg_f1 c]; rfl)⟩) (fun c => ?_))
    refine q_X0_highestOf hk ?_
    refine e_walk (stops := [51]) 20 ?_
    refine And.intro (fun c2 => ?_) (fun c2 => ⟨rfl, Nat.le_refl 1, Nat.le_refl 6, h2 (by rw [hE, q_rg_f2 c2]; rfl)⟩)
    rw [q_rg_t c c2] at hE
    refine q_X4_save hR hB hi (fun S2 a2 w2 hB2 hR2 => ?_)
    refine e_walk (stops := [59]) 20 ?_
    refine q_X0_settingAt hB2.2.2.1 hk ?_
    refine e_walk (stops := [69]) 20 ?_
    refine q_X0_changeSetting hk ?_
    have f3 : q_fb 0 S2 (sI S2 7 0 k y) := q_fb.rf.set q_rgn_s
    refine e_walk (stops := []) 20 ?_
    exact h0 hE _ (w2.trans (q_w.fb f3)) ⟨_, _, _, a2, q_B_set hnp hni hnl hB2 hk, q_inv_set hi hk, hR2.fb f3⟩
theorem q_X4_pass {x : Int32} (hB : q_B S 0 v np ni nl) (hi : q_inv B v np ni nl) (hR : q_ho S sv sn sp tk tx ln B a) (h : q_cft S v sv sn sp tk tx ln B post X (q_passE x) q_IA q_IA (v 3 + x) (q_ps v x np)) : x_X4_pass [aR 0 0, aI x] S post X := by
  obtain ⟨h1, -, h0⟩ := h
  have hnp := hi.1.1
  have hni := hi.1.2.1
  have hnl := hi.1.2.2.1
  refine e_walk (stops := [25]) 20 ?_
  refine And.intro (fun c => ⟨rfl, Nat.le_refl 1, Nat.le_refl 6, h1 (by unfold q_passE; rw [q_rg_f1 c]; rfl)⟩) (fun c => And.intro (fun c2 => ?_) (fun c2 => ⟨rfl, Nat.le_refl 1, Nat.le_refl 6, h1 (by unfold q_passE; rw [q_rg_f2 c2]; rfl)⟩))
  have hE : q_passE x = 0 := by unfold q_passE; rw [q_rg_t c c2]; rfl
  obtain ⟨n, n1, n2, rfl⟩ := q_rgN (lo := 1) (hi := 30) (by decide) (by decide) c c2
  refine q_X4_save hR hB hi (fun S2 a2 w2 hB2 hR2 => ?_)
  have loop : ∀ d k, k + d = n → 1 ≤ k → ∀ S3, q_fb 0 S2 S3 → q_B S3 0 (q_ps v (nI k) np) np ni nl → e_Run tb_X4_pass post X 27 [some (aR 0 0), some (aI (nI n)), some (aI (nI k))] [] S3 1 6 := by
    intro d
    induction d with
    | zero =>
      intro k hk k1 S3 f3 hB3
      obtain rfl : k = n := by omega
      refine e_walk (stops := [52]) 20 ?_
      refine And.intro (fun _ => ?_) (fun c => absurd (nI_le (a := k) (b := k) (by omega) (by omega)) c)
      show e_Run tb_X4_pass post X 52 [some (aR 0 0), some (aI (nI k)), some (aI (nI k))] [aI (mI S3 1 0 7)] S3 1 6
      rw [hB3.1.2.2.2.1, (q_ps_34 v (nI k) np).1]
      refine e_walk (stops := []) 20 ?_
      exact h0 hE _ (w2.trans (q_w.fb f3)) ⟨_, _, _, a2, hB3, q_inv_ps hi n2, hR2.fb f3⟩
    | succ d ih =>
      intro k hk k1 S3 f3 hB3
      refine e_walk (stops := [39]) 20 ?_
      refine And.intro (fun c => absurd c (nI_ge (a := k) (b := n) (by omega) (by omega))) (fun _ => ?_)
      refine q_X0_passDay hnp hni hnl hB3 (fun S4 f4 hB4 => ?_)
      refine e_walk (stops := [27]) 20 ?_
      show e_Run tb_X4_pass post X 27 [some (aR 0 0), some (aI (nI n)), some (aI (nI k + 1))] [] S4 1 6
      rw [nI_1]
      exact ih (k + 1) (by omega) (by omega) S4 (f3.trans f4) (hB4.row ⟨hnp, hni, hnl⟩ (fun j _ => (q_ps_next hi (by omega) j).symm))
  refine e_walk (stops := [39]) 20 ?_
  refine And.intro (fun c => absurd c (nI_ge (a := 0) (b := n) (by omega) (by omega))) (fun _ => ?_)
  refine q_X0_passDay hnp hni hnl hB2 (fun S3 f3 hB3 => ?_)
  refine e_walk (stops := [27]) 20 ?_
  exact loop (n - 1) 1 (by omega) (by decide) S3 f3 hB3
theorem q_X4_teach {x y : Int32} (hB : q_B S 0 v np ni nl) (hi : q_inv B v np ni nl) (hR : q_ho S sv sn sp tk tx ln B a) (h : q_cft S v sv sn sp tk tx ln B post X (q_teachE v np x y) q_IO q_IS (q_of v x.toNatClampNeg 2 + 1) (q_teach v x.toNatClampNeg y.toNatClampNeg)) : x_X4_teach [aR 0 0, aI x, aI y] S post X := by
  obtain ⟨h1, h2, h0⟩ := h
  have hnp := hi.1.1
  refine e_walk (stops := [8]) 20 ?_
  refine q_X0_pupilAt hB.1.1 hnp (fun p pp e => ?_) (fun z => ?_)
  case refine_2 => exact e_walk (stops := []) 20 ⟨rfl, Nat.le_refl 1, Nat.le_refl 6, h1 (by unfold q_teachE; rw [z]; rfl)⟩
  subst e
  refine e_walk (stops := [17]) 20 ?_
  refine q_X4_isTeacher ?_
  cases z : q_ix y 3 with
  | false =>
    refine e_walk (stops := []) 20 ?_
    exact And.intro (fun _ => ⟨rfl, Nat.le_refl 1, Nat.le_refl 6, h1 (by unfold q_teachE; rw [z, Bool.and_false]; rfl)⟩) (fun c => absurd rfl c)
  | true =>
    obtain ⟨t, ht, rfl⟩ := q_ix_of (by decide) z
    have hE : q_teachE v np (nI p) (nI t) = if 0 < q_whyLesson v p t then 2 else 0 := by
      unfold q_teachE
      rw [q_ix_mk (by omega) pp, z, nI_clamp (by omega), nI_clamp (by omega)]; rfl
    have hle := q_whyLesson_le v p t
    rw [nI_clamp (by omega), nI_clamp (by omega)] at h0
    refine e_walk (stops := [39]) 20 ?_
    refine And.intro (fun c => absurd c (by decide)) (fun _ => ?_)
    refine q_X0_whyNoLesson hi hB pp ht ?_
    by_cases c0 : q_whyLesson v p t = 0
    · rw [c0] at hE ⊢
      refine e_walk (stops := [56]) 20 ?_
      refine And.intro (fun _ => ?_) (fun c => absurd (by decide) c)
      refine q_X4_save hR hB hi (fun S2 a2 w2 hB2 hR2 => ?_)
      refine e_walk (stops := [65]) 20 ?_
      refine q_X0_tryTeach hi hB2 (fun p2 t2 pp2 tt2 e e2 hw S3 f3 hB3 => ?_) (fun z => absurd (by rw [hE]; rfl) z)
      have : p = p2 := (nI_eq (by omega) (by omega)).mp e
      subst this
      have : t = t2 := (nI_eq (by omega) (by omega)).mp e2
      subst this
      have e2 : q_of (q_teach v p t) p 2 = q_of v p 2 + 1 := by
        unfold q_teach
        rw [q_of]
        simp (disch := omega) only [q_un, q_uq]
      refine e_walk (stops := [70]) 20 ?_
      show e_Run tb_X4_teach post X 70 [some (aR 0 0), some (aI (nI p)), some (aI (nI t)), some (aR 2 (10 * 0 + p))] [aI (mI S3 2 (10 * 0 + p) 2)] S3 1 6
      rw [(hB3.pl pp).2.2.1, e2]
      refine e_walk (stops := []) 20 ?_
      exact h0 (by rw [hE]; rfl) S3 (w2.trans (q_w.fb f3)) ⟨_, _, _, a2, hB3, q_inv_teach hi pp ht hw, hR2.fb f3⟩
    · rw [if_pos (by omega)] at hE
      refine e_walk (stops := []) 20 ?_
      exact And.intro (fun c => absurd ((nI_eq (a := q_whyLesson v p t) (b := 0) (by omega) (by decide)).mp c) c0) (fun _ => ⟨rfl, Nat.le_refl 1, Nat.le_refl 6, h2 hE⟩)
theorem q_X4_march {x : Int32} (hB : q_B S 0 v np ni nl) (hi : q_inv B v np ni nl) (hR : q_ho S sv sn sp tk tx ln B a) (h : q_cft S v sv sn sp tk tx ln (B + 1) post X (q_marchE v x) q_IO q_IS (nI (q_sh v x.toNatClampNeg np 4)) (q_march v x.toNatClampNeg np)) : x_X4_march [aR 0 0, aI x] S post X := by
  obtain ⟨h1, h2, h0⟩ := h
  refine e_walk (stops := [4]) 20 ?_
  refine q_X4_isMarch ?_
  cases z : q_ix x 4 with
  | false =>
    refine e_walk (stops := []) 20 ?_
    exact And.intro (fun _ => ⟨rfl, Nat.le_refl 1, Nat.le_refl 6, h1 (by unfold q_marchE; rw [z]; rfl)⟩) (fun c => absurd rfl c)
  | true =>
    obtain ⟨m, hm, rfl⟩ := q_ix_of (by decide) z
    have hE : q_marchE v (nI m) = cond (q_sun v && decide (¬ v 4 = 1)) 0 2 := by
      unfold q_marchE
      rw [z]; rfl
    rw [nI_clamp (by omega)] at h0
    refine e_walk (stops := [24]) 20 ?_
    refine And.intro (fun c => absurd c (by decide)) (fun _ => ?_)
    refine q_X0_mayMarch hi hB ?_
    cases z2 : (q_sun v && decide (¬ v 4 = 1)) with
    | false =>
      rw [z2] at hE
      refine e_walk (stops := []) 20 ?_
      exact And.intro (fun _ => ⟨rfl, Nat.le_refl 1, Nat.le_refl 6, h2 hE⟩) (fun c => absurd rfl c)
    | true =>
      rw [z2] at hE
      refine e_walk (stops := [41]) 20 ?_
      refine And.intro (fun c => absurd c (by decide)) (fun _ => ?_)
      refine q_X4_save hR hB hi (fun S2 a2 w2 hB2 hR2 => ?_)
      refine e_walk (stops := [46]) 20 ?_
      refine q_X4_playMarch hi hB2 hm (fun S3 f3 hB3 => ?_)
      refine e_walk (stops := []) 20 ?_
      exact h0 hE S3 (w2.trans (q_w.f0 f3)) ⟨_, _, _, a2, hB3, q_inv_march hi hm, (hR2.f0 f3).mono (by omega)⟩
end Do2
