/-! What walks come to: the system's looks. Own work. -/
section Looks
variable {S S1 S2 : eM} {post : eQ} {X : eX} {v sp : qV} {sv : Nat → qV} {sn ln n : Nat} {tk : Bool} {tx : Nat → Int32} {B b np ni nl : Nat} {a a2 : Nat → Nat}
/-- what is owed behind a look: refused, or told -/
def q_tlc (S : eM) (v : qV) (sv : Nat → qV) (sn : Nat) (sp : qV) (tk : Bool) (tx : Nat → Int32) (ln B : Nat) (post : eQ) (X : eX) (e : Nat) (c1 c2 : String) (r : Int32) : Prop :=
  (e = 1 → X c1 S) ∧ (e = 2 → X c2 S) ∧ (e = 0 → ∀ S2, q_w S S2 → q_Y S2 v sv sn sp tk tx ln B → post (some (aI r)) S2)
theorem q_ix_t {x : Int32} {n : Nat} (h1 : ¬ x < 0) (h2 : x < nI n) : q_ix x n = true := by
  unfold q_ix
  rw [decide_eq_true h1, decide_eq_true h2]; rfl
theorem q_ix_f1 {x : Int32} {n : Nat} (h1 : x < 0) : q_ix x n = false := by
  unfold q_ix
  rw [decide_eq_false (fun z => z h1)]; rfl
theorem q_ix_f2 {x : Int32} {n : Nat} (h2 : ¬ x < nI n) : q_ix x n = false := by
  unfold q_ix
  rw [decide_eq_false h2, Bool.and_false]
theorem q_Y.same (hB : q_B S 0 v np ni nl) (hi : q_inv B v np ni nl) (hR : q_ho S sv sn sp tk tx ln B a) : q_Y S v sv sn sp tk tx ln B := ⟨_, _, _, a, hB, hi, hR⟩
theorem q_Y.f9 (hB : q_B S 0 v np ni nl) (hi : q_inv B v np ni nl) (hR : q_ho S sv sn sp tk tx ln B a) (f : q_f1 9 0 S S2) : q_Y S2 v sv sn sp tk tx ln B := ⟨_, _, _, a, hB.f9 f, hi, hR.f0 (q_f0.f9 f)⟩
theorem q_X4_pupilOf {x y : Int32} (hB : q_B S 0 v np ni nl) (hi : q_inv B v np ni nl) (hR : q_ho S sv sn sp tk tx ln B a) (h : q_tlc S v sv sn sp tk tx ln B post X (q_pOfE np x y) q_IO q_IA (q_pTold v x.toNatClampNeg y.toNatClampNeg)) : x_X4_pupilOf [aR 0 0, aI x, aI y] S post X := by
  obtain ⟨h1, h2, h0⟩ := h
  have hnp := hi.1.1
  refine e_walk (stops := [8]) 20 ?_
  refine q_X0_pupilAt hB.1.1 hnp (fun p pp e => ?_) (fun z => ?_)
  case refine_2 => exact e_walk (stops := []) 20 ⟨rfl, Nat.le_refl 1, Nat.le_refl 6, h1 (by unfold q_pOfE; rw [z]; rfl)⟩
  subst e
  have hE : q_pOfE np (nI p) y = cond (q_ix y 7) 0 2 := by
    unfold q_pOfE
    rw [q_ix_mk (by omega) pp]; rfl
  rw [nI_clamp (by omega)] at h0
  obtain ⟨aa, bb, cc, hh, -, -, hb, -⟩ := hi.2.1 p pp
  refine e_walk (stops := [48]) 20 ?_
  refine And.intro (fun c => ⟨rfl, Nat.le_refl 1, Nat.le_refl 6, h2 (by rw [hE, q_ix_f1 c]; rfl)⟩) (fun c => And.intro (fun c2 => ?_) (fun c2 => ⟨rfl, Nat.le_refl 1, Nat.le_refl 6, h2 (by rw [hE, q_ix_f2 c2]; rfl)⟩))
  have hz : q_ix y 7 = true := q_ix_t c c2
  rw [hz] at hE
  obtain ⟨w, hw, rfl⟩ := q_ix_of (by decide) hz
  rw [nI_clamp (by omega)] at h0
  refine q_X2_number (hB.pl pp) hb hw ?_
  refine e_walk (stops := []) 20 ?_
  exact h0 hE S q_w.rf (q_Y.same hB hi hR)
theorem q_X4_instrumentOf {x y : Int32} (hB : q_B S 0 v np ni nl) (hi : q_inv B v np ni nl) (hR : q_ho S sv sn sp tk tx ln B a) (h : q_tlc S v sv sn sp tk tx ln B post X (q_iOfE ni x y) q_IO q_IA (q_iTold v x.toNatClampNeg y.toNatClampNeg)) : x_X4_instrumentOf [aR 0 0, aI x, aI y] S post X := by
  obtain ⟨h1, h2, h0⟩ := h
  have hni := hi.1.2.1
  refine e_walk (stops := [8]) 20 ?_
  refine q_X0_instrumentAt hB.1.2.1 hni (fun p pp e => ?_) (fun z => ?_)
  case refine_2 => exact e_walk (stops := []) 20 ⟨rfl, Nat.le_refl 1, Nat.le_refl 6, h1 (by unfold q_iOfE; rw [z]; rfl)⟩
  subst e
  have hE : q_iOfE ni (nI p) y = cond (q_ix y 6) 0 2 := by
    unfold q_iOfE
    rw [q_ix_mk (by omega) pp]; rfl
  rw [nI_clamp (by omega)] at h0
  refine e_walk (stops := [49]) 20 ?_
  refine And.intro (fun c => ⟨rfl, Nat.le_refl 1, Nat.le_refl 6, h2 (by rw [hE, q_ix_f1 c]; rfl)⟩) (fun c => And.intro (fun c2 => ?_) (fun c2 => ⟨rfl, Nat.le_refl 1, Nat.le_refl 6, h2 (by rw [hE, q_ix_f2 c2]; rfl)⟩))
  have hz : q_ix y 6 = true := q_ix_t c c2
  rw [hz] at hE
  obtain ⟨w, hw, rfl⟩ := q_ix_of (by decide) hz
  rw [nI_clamp (by omega)] at h0
  refine q_X1_number (hB.it pp) hw ?_
  refine e_walk (stops := []) 20 ?_
  exact h0 hE S q_w.rf (q_Y.same hB hi hR)
theorem q_X4_loan {x : Int32} (hB : q_B S 0 v np ni nl) (hi : q_inv B v np ni nl) (hR : q_ho S sv sn sp tk tx ln B a) (h : q_tlc S v sv sn sp tk tx ln B post X (q_loanE x) q_IA q_IA (q_lTold v x.toNatClampNeg)) : x_X4_loan [aR 0 0, aI x] S post X := by
  obtain ⟨h1, -, h0⟩ := h
  refine e_walk (stops := [23]) 20 ?_
  refine And.intro (fun c => ?_) (fun c => ⟨rfl, Nat.le_refl 1, Nat.le_refl 6, h1 (by unfold q_loanE; rw [if_pos (Int32.not_le.mp c)])⟩)
  have hx : ¬ x < 0 := Int32.not_lt.mpr c
  obtain ⟨k, hk, rfl⟩ := nI_of hx
  rw [nI_clamp hk] at h0
  refine q_X0_loanAt hi hB hk ?_
  refine e_walk (stops := []) 20 ?_
  exact h0 (by unfold q_loanE; rw [if_neg hx]) S q_w.rf (q_Y.same hB hi hR)
theorem q_X4_part {x y w : Int32} (hB : q_B S 0 v np ni nl) (hi : q_inv B v np ni nl) (hR : q_ho S sv sn sp tk tx ln B a) (h : q_tlc S v sv sn sp tk tx ln B post X (q_partE x y w) q_IO q_IA (q_partTold v x.toNatClampNeg np y.toNatClampNeg w.toNatClampNeg)) : x_X4_part [aR 0 0, aI x, aI y, aI w] S post X := by
  obtain ⟨h1, h2, h0⟩ := h
  refine e_walk (stops := [4]) 20 ?_
  refine q_X4_isMarch ?_
  cases z : q_ix x 4 with
  | false =>
    refine e_walk (stops := []) 20 ?_
    exact And.intro (fun _ => ⟨rfl, Nat.le_refl 1, Nat.le_refl 6, h1 (by unfold q_partE; rw [z]; rfl)⟩) (fun c => absurd rfl c)
  | true =>
    refine e_walk (stops := [27]) 20 ?_
    refine And.intro (fun c => absurd c (by decide)) (fun _ => And.intro (fun c => ⟨rfl, Nat.le_refl 1, Nat.le_refl 6, h1 (by unfold q_partE; rw [q_ix_f1 c, Bool.and_false]; rfl)⟩) (fun c => And.intro (fun c2 => ?_) (fun c2 => ⟨rfl, Nat.le_refl 1, Nat.le_refl 6, h1 (by unfold q_partE; rw [q_ix_f2 (n := 4) c2, Bool.and_false]; rfl)⟩)))
    have hy : q_ix y 4 = true := q_ix_t c c2
    have hE : q_partE x y w = cond (q_ix w 4) 0 2 := by
      unfold q_partE
      rw [z, hy]; rfl
    refine e_walk (stops := [54]) 20 ?_
    refine And.intro (fun c => ⟨rfl, Nat.le_refl 1, Nat.le_refl 6, h2 (by rw [hE, q_ix_f1 c]; rfl)⟩) (fun c => And.intro (fun c2 => ?_) (fun c2 => ⟨rfl, Nat.le_refl 1, Nat.le_refl 6, h2 (by rw [hE, q_ix_f2 (n := 4) c2]; rfl)⟩))
    have hw : q_ix w 4 = true := q_ix_t c c2
    rw [hw] at hE
    obtain ⟨m, hm, rfl⟩ := q_ix_of (by decide) z
    obtain ⟨k, hk, rfl⟩ := q_ix_of (by decide) hy
    obtain ⟨u, hu, rfl⟩ := q_ix_of (by decide) hw
    rw [nI_clamp (by omega), nI_clamp (by omega), nI_clamp (by omega)] at h0
    refine q_X4_partNumber hi.ok0 hi.lips hB hm hk hu (fun S2 f2 => ?_)
    refine e_walk (stops := []) 20 ?_
    exact h0 hE S2 (q_w.f0 (q_f0.f9 f2)) (q_Y.f9 hB hi hR f2)
theorem q_X4_count {x : Int32} (hB : q_B S 0 v np ni nl) (hi : q_inv B v np ni nl) (hR : q_ho S sv sn sp tk tx ln B a) (h : q_tlc S v sv sn sp tk tx ln B post X (q_countE x) q_IA q_IA (q_cTold v np sn x.toNatClampNeg)) : x_X4_count [aR 0 0, aI x] S post X := by
  obtain ⟨h1, -, h0⟩ := h
  refine e_walk (stops := [26]) 20 ?_
  refine And.intro (fun c => ⟨rfl, Nat.le_refl 1, Nat.le_refl 6, h1 (by unfold q_countE; rw [q_ix_f1 c]; rfl)⟩) (fun c => And.intro (fun c2 => ?_) (fun c2 => ⟨rfl, Nat.le_refl 1, Nat.le_refl 6, h1 (by unfold q_countE; rw [q_ix_f2 (n := 19) c2]; rfl)⟩))
  have hz : q_ix x 19 = true := q_ix_t c c2
  have hE : q_countE x = 0 := by unfold q_countE; rw [hz]; rfl
  obtain ⟨w, hw, rfl⟩ := q_ix_of (by decide) hz
  rw [nI_clamp (by omega)] at h0
  refine q_X4_countNumber hi hB hR.1.1 hw ?_
  refine e_walk (stops := []) 20 ?_
  exact h0 hE S q_w.rf (q_Y.same hB hi hR)
theorem q_X4_noLoan {x y : Int32} (hB : q_B S 0 v np ni nl) (hi : q_inv B v np ni nl) (hR : q_ho S sv sn sp tk tx ln B a) (h : q_tlc S v sv sn sp tk tx ln B post X (q_noLoanE np ni x y) q_IO q_IO (nI (q_whyLoan v x.toNatClampNeg y.toNatClampNeg))) : x_X4_noLoan [aR 0 0, aI x, aI y] S post X := by
  obtain ⟨h1, -, h0⟩ := h
  have hnp := hi.1.1
  have hni := hi.1.2.1
  have bad : q_ix x ni = false ∨ q_ix y np = false → X q_IO S := fun z => h1 (by
    unfold q_noLoanE
    rcases z with z | z <;> rw [z]
    · rfl
    · rw [Bool.and_false]; rfl)
  refine e_walk (stops := [8]) 20 ?_
  refine q_X0_instrumentAt hB.1.2.1 hni (fun i ii e => ?_) (fun z => ?_)
  case refine_2 =>
    refine e_walk (stops := [17]) 20 ?_
    refine q_X0_pupilAt hB.1.1 hnp (fun p pp e => ?_) (fun z2 => ?_)
    · exact e_walk (stops := []) 20 ⟨rfl, Nat.le_refl 1, Nat.le_refl 6, bad (Or.inl z)⟩
    · exact e_walk (stops := []) 20 ⟨rfl, Nat.le_refl 1, Nat.le_refl 6, bad (Or.inl z)⟩
  subst e
  refine e_walk (stops := [17]) 20 ?_
  refine q_X0_pupilAt hB.1.1 hnp (fun p pp e => ?_) (fun z => ?_)
  case refine_2 => exact e_walk (stops := []) 20 ⟨rfl, Nat.le_refl 1, Nat.le_refl 6, bad (Or.inr z)⟩
  subst e
  rw [nI_clamp (by omega), nI_clamp (by omega)] at h0
  refine e_walk (stops := [48]) 20 ?_
  refine q_X0_whyNoLoan hi hB ii pp ?_
  refine e_walk (stops := []) 20 ?_
  exact h0 (by unfold q_noLoanE; rw [q_ix_mk (by omega) ii, q_ix_mk (by omega) pp]; rfl) S q_w.rf (q_Y.same hB hi hR)
theorem q_X4_noLesson {x y : Int32} (hB : q_B S 0 v np ni nl) (hi : q_inv B v np ni nl) (hR : q_ho S sv sn sp tk tx ln B a) (h : q_tlc S v sv sn sp tk tx ln B post X (q_noLessonE np x y) q_IO q_IO (nI (q_whyLesson v x.toNatClampNeg y.toNatClampNeg))) : x_X4_noLesson [aR 0 0, aI x, aI y] S post X := by
  obtain ⟨h1, -, h0⟩ := h
  have hnp := hi.1.1
  refine e_walk (stops := [8]) 20 ?_
  refine q_X0_pupilAt hB.1.1 hnp (fun p pp e => ?_) (fun z => ?_)
  case refine_2 => exact e_walk (stops := []) 20 ⟨rfl, Nat.le_refl 1, Nat.le_refl 6, h1 (by unfold q_noLessonE; rw [z]; rfl)⟩
  subst e
  refine e_walk (stops := [17]) 20 ?_
  refine q_X4_isTeacher ?_
  cases z : q_ix y 3 with
  | false =>
    refine e_walk (stops := []) 20 ?_
    exact And.intro (fun _ => ⟨rfl, Nat.le_refl 1, Nat.le_refl 6, h1 (by unfold q_noLessonE; rw [z, Bool.and_false]; rfl)⟩) (fun c => absurd rfl c)
  | true =>
    have hE : q_noLessonE np (nI p) y = 0 := by unfold q_noLessonE; rw [q_ix_mk (by omega) pp, z]; rfl
    obtain ⟨t, ht, rfl⟩ := q_ix_of (by decide) z
    rw [nI_clamp (by omega), nI_clamp (by omega)] at h0
    refine e_walk (stops := [39]) 20 ?_
    refine And.intro (fun c => absurd c (by decide)) (fun _ => ?_)
    refine q_X0_whyNoLesson hi hB pp ht ?_
    refine e_walk (stops := []) 20 ?_
    exact h0 hE S q_w.rf (q_Y.same hB hi hR)
theorem q_X4_shortOf {x : Int32} (hB : q_B S 0 v np ni nl) (hi : q_inv B v np ni nl) (hR : q_ho S sv sn sp tk tx ln B a) (h : q_tlc S v sv sn sp tk tx ln B post X (q_marE x) q_IO q_IO (nI (q_sh v x.toNatClampNeg np 4))) : x_X4_shortOf [aR 0 0, aI x] S post X := by
  obtain ⟨h1, -, h0⟩ := h
  refine e_walk (stops := [4]) 20 ?_
  refine q_X4_isMarch ?_
  cases z : q_ix x 4 with
  | false =>
    refine e_walk (stops := []) 20 ?_
    exact And.intro (fun _ => ⟨rfl, Nat.le_refl 1, Nat.le_refl 6, h1 (by unfold q_marE; rw [z]; rfl)⟩) (fun c => absurd rfl c)
  | true =>
    have hE : q_marE x = 0 := by unfold q_marE; rw [z]; rfl
    obtain ⟨m, hm, rfl⟩ := q_ix_of (by decide) z
    rw [nI_clamp (by omega)] at h0
    refine e_walk (stops := [22]) 20 ?_
    refine And.intro (fun c => absurd c (by decide)) (fun _ => ?_)
    refine q_X4_fillLineUp hi.ok0 hi.lips hB hm (fun S2 f2 _ => ?_)
    refine e_walk (stops := []) 20 ?_
    exact h0 hE S2 (q_w.f0 (q_f0.f9 f2)) (q_Y.f9 hB hi hR f2)
theorem q_X4_most {x : Int32} (hB : q_B S 0 v np ni nl) (hi : q_inv B v np ni nl) (hR : q_ho S sv sn sp tk tx ln B a) (h : q_tlc S v sv sn sp tk tx ln B post X (q_marE x) q_IO q_IO (q_mos v x.toNatClampNeg np 16)) : x_X4_most [aR 0 0, aI x] S post X := by
  obtain ⟨h1, -, h0⟩ := h
  refine e_walk (stops := [4]) 20 ?_
  refine q_X4_isMarch ?_
  cases z : q_ix x 4 with
  | false =>
    refine e_walk (stops := []) 20 ?_
    exact And.intro (fun _ => ⟨rfl, Nat.le_refl 1, Nat.le_refl 6, h1 (by unfold q_marE; rw [z]; rfl)⟩) (fun c => absurd rfl c)
  | true =>
    have hE : q_marE x = 0 := by unfold q_marE; rw [z]; rfl
    obtain ⟨m, hm, rfl⟩ := q_ix_of (by decide) z
    rw [nI_clamp (by omega)] at h0
    refine e_walk (stops := [22]) 20 ?_
    refine And.intro (fun c => absurd c (by decide)) (fun _ => ?_)
    refine q_X4_mostParts hi.ok0 hB hm ?_
    refine e_walk (stops := []) 20 ?_
    exact h0 hE S q_w.rf (q_Y.same hB hi hR)
theorem q_X4_helps {x y : Int32} (hB : q_B S 0 v np ni nl) (hi : q_inv B v np ni nl) (hR : q_ho S sv sn sp tk tx ln B a) (h : q_tlc S v sv sn sp tk tx ln B post X (q_helpsE x y) q_IO q_IO (q_hl v x.toNatClampNeg np y.toNatClampNeg np 0)) : x_X4_helps [aR 0 0, aI x, aI y] S post X := by
  obtain ⟨h1, -, h0⟩ := h
  refine e_walk (stops := [4]) 20 ?_
  refine q_X4_isMarch ?_
  cases z : q_ix x 4 with
  | false =>
    refine e_walk (stops := []) 20 ?_
    exact And.intro (fun _ => ⟨rfl, Nat.le_refl 1, Nat.le_refl 6, h1 (by unfold q_helpsE; rw [z]; rfl)⟩) (fun c => absurd rfl c)
  | true =>
    refine e_walk (stops := [11]) 20 ?_
    refine And.intro (fun c => absurd c (by decide)) (fun _ => ?_)
    refine q_X4_isTeacher ?_
    cases z2 : q_ix y 3 with
    | false =>
      refine e_walk (stops := []) 20 ?_
      exact And.intro (fun _ => ⟨rfl, Nat.le_refl 1, Nat.le_refl 6, h1 (by unfold q_helpsE; rw [z2, Bool.and_false]; rfl)⟩) (fun c => absurd rfl c)
    | true =>
      have hE : q_helpsE x y = 0 := by unfold q_helpsE; rw [z, z2]; rfl
      obtain ⟨m, hm, rfl⟩ := q_ix_of (by decide) z
      obtain ⟨t, ht, rfl⟩ := q_ix_of (by decide) z2
      rw [nI_clamp (by omega), nI_clamp (by omega)] at h0
      refine e_walk (stops := [31]) 20 ?_
      refine And.intro (fun c => absurd c (by decide)) (fun _ => ?_)
      refine q_X4_helper hi hB hm ht (fun S2 f2 => ?_)
      refine e_walk (stops := []) 20 ?_
      exact h0 hE S2 (q_w.f0 (q_f0.f9 f2)) (q_Y.f9 hB hi hR f2)
end Looks
