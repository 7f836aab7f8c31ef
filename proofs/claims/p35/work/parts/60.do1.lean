/-! What walks come to: the system's calls that change it, 1. Own work. -/
section Do1
variable {S S1 S2 : eM} {post : eQ} {X : eX} {v sp : qV} {sv : Nat → qV} {sn ln n : Nat} {tk : Bool} {tx : Nat → Int32} {B b np ni nl : Nat} {a a2 : Nat → Nat}
abbrev q_IA : String := "java/lang/IllegalArgumentException"
abbrev q_IS : String := "java/lang/IllegalStateException"
abbrev q_IO : String := "java/lang/IndexOutOfBoundsException"
/-- the system as a whole: its present row, what it has saved, its text -/
def q_Y (S : eM) (v : qV) (sv : Nat → qV) (sn : Nat) (sp : qV) (tk : Bool) (tx : Nat → Int32) (ln B : Nat) : Prop := ∃ np ni nl a, q_B S 0 v np ni nl ∧ q_inv B v np ni nl ∧ q_ho S sv sn sp tk tx ln B a
/-- what is owed behind a call: refused, or done -/
def q_cft (S : eM) (v : qV) (sv : Nat → qV) (sn : Nat) (sp : qV) (tk : Bool) (tx : Nat → Int32) (ln B2 : Nat) (post : eQ) (X : eX) (e : Nat) (c1 c2 : String) (r : Int32) (v2 : qV) : Prop :=
  (e = 1 → X c1 S) ∧ (e = 2 → X c2 S) ∧ (e = 0 → ∀ S2, q_w S S2 → q_Y S2 v2 (q_sv sv sn v) (min sn 5 + 1) sp tk tx ln B2 → post (some (aI r)) S2)
theorem q_rg_t {lo hi x : Int32} (h1 : ¬ x < lo) (h2 : x ≤ hi) : q_rg lo hi x = true := by
  unfold q_rg
  rw [decide_eq_true h1, decide_eq_true (Int32.not_lt.mpr h2)]; rfl
theorem q_rg_f1 {lo hi x : Int32} (h1 : x < lo) : q_rg lo hi x = false := by
  unfold q_rg
  rw [decide_eq_false (fun z => z h1)]; rfl
theorem q_rg_f2 {lo hi x : Int32} (h2 : ¬ x ≤ hi) : q_rg lo hi x = false := by
  unfold q_rg
  rw [decide_eq_false (p := ¬ hi < x) (fun z => h2 (Int32.not_lt.mp z)), Bool.and_false]
theorem q_rgN {lo hi : Nat} (hh : hi < 65535) (hl : lo ≤ hi) {x : Int32} (h1 : ¬ x < nI lo) (h2 : x ≤ nI hi) : ∃ n, lo ≤ n ∧ n ≤ hi ∧ x = nI n := by
  have hx : q_ix x (hi + 1) = true := by
    unfold q_ix
    rw [decide_eq_true (p := ¬ x < 0) (fun z => h1 (Int32.lt_of_lt_of_le z (nI_le (a := 0) (b := lo) (Nat.zero_le _) (by omega)))), decide_eq_true (p := x < nI (hi + 1)) (Int32.lt_of_le_of_lt h2 (nI_lt (a := hi) (b := hi + 1) (by omega) (by omega)))]; rfl
  obtain ⟨k, hk, e⟩ := q_ix_of (by omega) hx
  refine ⟨k, Nat.not_lt.mp (fun z => h1 ?_), by omega, e⟩
  rw [e]
  exact nI_lt z (by omega)
theorem q_X4_pupil {x : Int32} (hB : q_B S 0 v np ni nl) (hi : q_inv B v np ni nl) (hR : q_ho S sv sn sp tk tx ln B a) (h : q_cft S v sv sn sp tk tx ln B post X (q_pupilE np x) q_IA q_IS (nI np) (q_pupil v np x)) : x_X4_pupil [aR 0 0, aI x] S post X := by
  obtain ⟨h1, h2, h0⟩ := h
  have hnp := hi.1.1
  refine e_walk (stops := [28]) 20 ?_
  refine And.intro (fun c => ⟨rfl, Nat.le_refl 1, Nat.le_refl 6, h1 (by unfold q_pupilE; rw [q_rg_f1 c]; rfl)⟩) (fun c => And.intro (fun c2 => ?_) (fun c2 => ⟨rfl, Nat.le_refl 1, Nat.le_refl 6, h1 (by unfold q_pupilE; rw [q_rg_f2 c2]; rfl)⟩))
  have hE : q_pupilE np x = cond (decide (np = 10)) 2 0 := by unfold q_pupilE; rw [q_rg_t c c2]; rfl
  obtain ⟨n, n1, n2, rfl⟩ := q_rgN (lo := 5) (hi := 30) (by decide) (by decide) c c2
  refine q_X0_hasRoomForPupil hB.1.1 hnp ?_
  by_cases c10 : np = 10
  · rw [decide_eq_true c10] at hE ⊢
    refine e_walk (stops := []) 20 ?_
    exact And.intro (fun _ => ⟨rfl, Nat.le_refl 1, Nat.le_refl 6, h2 hE⟩) (fun c => absurd rfl c)
  rw [decide_eq_false c10] at hE ⊢
  refine e_walk (stops := [45]) 20 ?_
  refine And.intro (fun c => absurd c (by decide)) (fun _ => ?_)
  refine q_X4_save hR hB hi (fun S2 a2 w2 hB2 hR2 => ?_)
  refine e_walk (stops := [53]) 20 ?_
  refine q_X0_addPupil hi hB2 (by omega) (fun S3 f3 hB3 => ?_)
  refine e_walk (stops := []) 20 ?_
  exact h0 hE S3 (w2.trans (q_w.fb f3)) ⟨_, _, _, a2, hB3, q_inv_pupil hi (by omega) n1 n2, hR2.fb f3⟩
theorem q_X4_instrument {x : Int32} (hB : q_B S 0 v np ni nl) (hi : q_inv B v np ni nl) (hR : q_ho S sv sn sp tk tx ln B a) (h : q_cft S v sv sn sp tk tx ln B post X (q_instE ni x) q_IA q_IS (nI ni) (q_inst v ni x)) : x_X4_instrument [aR 0 0, aI x] S post X := by
  obtain ⟨h1, h2, h0⟩ := h
  have hni := hi.1.2.1
  refine e_walk (stops := [26]) 20 ?_
  refine And.intro (fun c => ⟨rfl, Nat.le_refl 1, Nat.le_refl 6, h1 (by unfold q_instE; rw [q_rg_f1 c]; rfl)⟩) (fun c => And.intro (fun c2 => ?_) (fun c2 => ⟨rfl, Nat.le_refl 1, Nat.le_refl 6, h1 (by unfold q_instE; rw [q_rg_f2 c2]; rfl)⟩))
  have hE : q_instE ni x = cond (decide (ni = 10)) 2 0 := by unfold q_instE; rw [q_rg_t c c2]; rfl
  obtain ⟨n, n1, n2, rfl⟩ := q_rgN (lo := 0) (hi := 3) (by decide) (by decide) c c2
  refine q_X0_hasRoomForInstrument hB.1.2.1 hni ?_
  by_cases c10 : ni = 10
  · rw [decide_eq_true c10] at hE ⊢
    refine e_walk (stops := []) 20 ?_
    exact And.intro (fun _ => ⟨rfl, Nat.le_refl 1, Nat.le_refl 6, h2 hE⟩) (fun c => absurd rfl c)
  rw [decide_eq_false c10] at hE ⊢
  refine e_walk (stops := [43]) 20 ?_
  refine And.intro (fun c => absurd c (by decide)) (fun _ => ?_)
  refine q_X4_save hR hB hi (fun S2 a2 w2 hB2 hR2 => ?_)
  refine e_walk (stops := [51]) 20 ?_
  refine q_X0_addInstrument hi hB2 (by omega) (fun S3 f3 hB3 => ?_)
  refine e_walk (stops := []) 20 ?_
  exact h0 hE S3 (w2.trans (q_w.fb f3)) ⟨_, _, _, a2, hB3, q_inv_inst hi (by omega) (by omega), hR2.fb f3⟩
theorem q_X4_lend {x y : Int32} (hB : q_B S 0 v np ni nl) (hi : q_inv B v np ni nl) (hR : q_ho S sv sn sp tk tx ln B a) (h : q_cft S v sv sn sp tk tx ln B post X (q_lendE v np ni x y) q_IO q_IS (nI (nl + 1)) (q_lend v nl x.toNatClampNeg y.toNatClampNeg)) : x_X4_lend [aR 0 0, aI x, aI y] S post X := by
  obtain ⟨h1, h2, h0⟩ := h
  have hnp := hi.1.1
  have hni := hi.1.2.1
  have bad : q_ix x ni = false ∨ q_ix y np = false → X q_IO S := fun z => h1 (by
    unfold q_lendE
    rcases z with z | z <;> rw [z]
    · rfl
    · rw [Bool.and_false]; rfl)
  refine e_walk (stops := [8]) 20 ?_
  refine q_X0_instrumentAt hB.1.2.1 hni (fun i ii e => ?_) (fun z => ?_)
  case refine_2 =>
    refine e_walk (stops := [17]) 20 ?_
    refine q_X0_pupilAt hB.1.1 hnp (fun p pp e => ?_) (fun z2 => ?_)
    · exact e_walk (stops := []) 20 ⟨rfl, Nat.le_refl 1, Nat.le_refl 6, bad (Or.inl z)⟩
    · exact e_walk (stops := []) 20 ⟨rfl, Nat.le_refl 1, Nat.le_refl 6, bad (Or.inl z)⟩
  subst e
  refine e_walk (stops := [17]) 20 ?_
  refine q_X0_pupilAt hB.1.1 hnp (fun p pp e => ?_) (fun z => ?_)
  case refine_2 => exact e_walk (stops := []) 20 ⟨rfl, Nat.le_refl 1, Nat.le_refl 6, bad (Or.inr z)⟩
  subst e
  have hE : q_lendE v np ni (nI i) (nI p) = if 0 < q_whyLoan v i p then 2 else 0 := by
    unfold q_lendE
    rw [q_ix_mk (by omega) ii, q_ix_mk (by omega) pp, nI_clamp (by omega), nI_clamp (by omega)]; rfl
  have hle := q_whyLoan_le v i p
  rw [nI_clamp (by omega), nI_clamp (by omega)] at h0
  refine e_walk (stops := [48]) 20 ?_
  refine q_X0_whyNoLoan hi hB ii pp ?_
  by_cases c0 : q_whyLoan v i p = 0
  · rw [c0] at hE ⊢
    refine e_walk (stops := [65]) 20 ?_
    refine And.intro (fun _ => ?_) (fun c => absurd (by decide) c)
    refine q_X4_save hR hB hi (fun S2 a2 w2 hB2 hR2 => ?_)
    refine e_walk (stops := [74]) 20 ?_
    refine q_X0_tryLend hi hB2 (fun i2 p2 ii2 pp2 e e2 hw S3 f3 hB3 => ?_) (fun z => absurd (by rw [hE]; rfl) z)
    have : i = i2 := (nI_eq (by omega) (by omega)).mp e
    subst this
    have : p = p2 := (nI_eq (by omega) (by omega)).mp e2
    subst this
    refine e_walk (stops := [82]) 20 ?_
    show e_Run tb_X4_lend post X 82 [some (aR 0 0), some (aI (nI i)), some (aI (nI p)), some (aR 3 (10 * 0 + i)), some (aR 2 (10 * 0 + p))] [aI (mI S3 1 0 5)] S3 1 6
    rw [hB3.1.2.2.1]
    refine e_walk (stops := []) 20 ?_
    exact h0 (by rw [hE]; rfl) S3 (w2.trans (q_w.fb f3)) ⟨_, _, _, a2, hB3, (q_inv_lend hi ii pp hw).2, hR2.fb f3⟩
  · rw [if_pos (by omega)] at hE
    refine e_walk (stops := []) 20 ?_
    exact And.intro (fun c => absurd ((nI_eq (a := q_whyLoan v i p) (b := 0) (by omega) (by decide)).mp c) c0) (fun _ => ⟨rfl, Nat.le_refl 1, Nat.le_refl 6, h2 hE⟩)
theorem q_X4_back {x : Int32} (hB : q_B S 0 v np ni nl) (hi : q_inv B v np ni nl) (hR : q_ho S sv sn sp tk tx ln B a) (h : q_cft S v sv sn sp tk tx ln B post X (q_backE v ni x) q_IO q_IS (v 13 * q_its v x.toNatClampNeg 4) (q_back v nl x.toNatClampNeg ((q_its v x.toNatClampNeg 2).toNatClampNeg - 1))) : x_X4_back [aR 0 0, aI x] S post X := by
  obtain ⟨h1, h2, h0⟩ := h
  have hnp := hi.1.1
  have hni := hi.1.2.1
  refine e_walk (stops := [8]) 20 ?_
  refine q_X0_instrumentAt hB.1.2.1 hni (fun i ii e => ?_) (fun z => ?_)
  case refine_2 => exact e_walk (stops := []) 20 ⟨rfl, Nat.le_refl 1, Nat.le_refl 6, h1 (by unfold q_backE; rw [z]; rfl)⟩
  subst e
  have hE : q_backE v ni (nI i) = if q_its v i 2 = 0 then 2 else 0 := by
    unfold q_backE
    rw [q_ix_mk (by omega) ii, nI_clamp (by omega)]; rfl
  rw [nI_clamp (by omega)] at h0
  obtain ⟨i0, i1, i2, i3, i4⟩ := hB.it ii
  refine e_walk (stops := [27]) 20 ?_
  refine q_X1_isLent ?_
  rw [i2]
  by_cases c1 : q_its v i 2 = 0
  · rw [decide_eq_true (q_m1.mpr c1)]
    rw [if_pos c1] at hE
    refine e_walk (stops := []) 20 ?_
    exact And.intro (fun _ => ⟨rfl, Nat.le_refl 1, Nat.le_refl 6, h2 hE⟩) (fun c => absurd rfl c)
  rw [decide_eq_false (fun z => c1 (q_m1.mp z))]
  rw [if_neg c1] at hE
  refine e_walk (stops := [48]) 20 ?_
  refine And.intro (fun c => absurd c (by decide)) (fun _ => ?_)
  refine q_X0_billFor hB ii c1 ?_
  refine e_walk (stops := [53]) 20 ?_
  refine q_X4_save hR hB hi (fun S2 a2 w2 hB2 hR2 => ?_)
  refine e_walk (stops := [61]) 20 ?_
  refine q_X0_tryBack hi hB2 (fun i2 p ii2 pp e hl _ S3 f3 hB3 => ?_) (fun z => absurd hE z)
  have : i = i2 := (nI_eq (by omega) (by omega)).mp e
  subst this
  refine e_walk (stops := []) 20 ?_
  rw [hl, nI_clamp (by omega), Nat.add_sub_cancel] at h0
  exact h0 hE S3 (w2.trans (q_w.fb f3)) ⟨_, _, _, a2, hB3, q_inv_back hi ii pp hl, hR2.fb f3⟩
theorem q_X4_mend {x : Int32} (hB : q_B S 0 v np ni nl) (hi : q_inv B v np ni nl) (hR : q_ho S sv sn sp tk tx ln B a) (h : q_cft S v sv sn sp tk tx ln B post X (q_mendE v ni x) q_IO q_IS (15 * q_its v x.toNatClampNeg 1) (q_mend v x.toNatClampNeg)) : x_X4_mend [aR 0 0, aI x] S post X := by
  obtain ⟨h1, h2, h0⟩ := h
  have hnp := hi.1.1
  have hni := hi.1.2.1
  refine e_walk (stops := [8]) 20 ?_
  refine q_X0_instrumentAt hB.1.2.1 hni (fun i ii e => ?_) (fun z => ?_)
  case refine_2 => exact e_walk (stops := []) 20 ⟨rfl, Nat.le_refl 1, Nat.le_refl 6, h1 (by unfold q_mendE; rw [z]; rfl)⟩
  subst e
  have hE : q_mendE v ni (nI i) = if 0 < q_its v i 2 then 2 else 0 := by
    unfold q_mendE
    rw [q_ix_mk (by omega) ii, nI_clamp (by omega)]; rfl
  rw [nI_clamp (by omega)] at h0
  obtain ⟨i0, i1, i2, i3, i4⟩ := hB.it ii
  refine e_walk (stops := [27]) 20 ?_
  refine q_X1_isLent ?_
  rw [i2]
  by_cases c1 : q_its v i 2 = 0
  · rw [decide_eq_true (q_m1.mpr c1)]
    rw [if_neg (by rw [c1]; decide)] at hE
    refine e_walk (stops := [44]) 20 ?_
    refine And.intro (fun _ => ?_) (fun c => absurd rfl c)
    refine q_X1_priceOfRepair ?_
    rw [i1]
    refine e_walk (stops := [49]) 20 ?_
    refine q_X4_save hR hB hi (fun S2 a2 w2 hB2 hR2 => ?_)
    refine e_walk (stops := [57]) 20 ?_
    refine q_X0_tryMend hi hB2 (fun i2 ii2 e _ S3 f3 hB3 => ?_) (fun z => absurd hE z)
    have : i = i2 := (nI_eq (by omega) (by omega)).mp e
    subst this
    refine e_walk (stops := []) 20 ?_
    exact h0 hE S3 (w2.trans (q_w.fb f3)) ⟨_, _, _, a2, hB3, q_inv_mend hi ii, hR2.fb f3⟩
  · rw [decide_eq_false (fun z => c1 (q_m1.mp z))]
    obtain ⟨k, d, l, ⟨e0, e1, e2⟩, ⟨f0, f1, f2⟩, -⟩ := hi.2.2.1 i ii
    have hpos : 0 < q_its v i 2 := by
      rw [e2] at c1 ⊢
      exact Decidable.byContradiction (fun z => c1 ((q_nI0p (by omega)).mpr z))
    rw [if_pos hpos] at hE
    refine e_walk (stops := []) 20 ?_
    exact And.intro (fun c => absurd c (by decide)) (fun _ => ⟨rfl, Nat.le_refl 1, Nat.le_refl 6, h2 hE⟩)
end Do1
