/-! What walks come to: one call on both sides. Own work. -/
section Two
variable {S S1 S2 : eM} {v sp : qV} {sv : Nat → qV} {sn ln : Nat} {tk : Bool} {tx : Nat → Int32} {B np ni nl : Nat} {a : Nat → Nat}
theorem q_Y.mono {B2 : Nat} (h : q_Y S v sv sn sp tk tx ln B) (hB : B ≤ B2) : q_Y S v sv sn sp tk tx ln B2 := by
  obtain ⟨p, i, l, a, h1, h2, h3⟩ := h
  exact ⟨p, i, l, a, h1, h2.mono hB, h3.mono hB⟩
/-- the reference's calls leave the system -/
theorem q_Y.fm (h : q_Y S v sv sn sp tk tx ln B) (f : q_fm S S2) : q_Y S2 v sv sn sp tk tx ln B := by
  obtain ⟨p, i, l, a, h1, h2, h3⟩ := h
  have e : ∀ k i, k < 13 → mI S2 k i = mI S k i := fun k i hk => f.1 k i (by omega) (by omega)
  have bq : ∀ b w p i l, q_B S b w p i l → q_B S2 b w p i l := fun b w p i l hb => by
    have e1 : ∀ i, mI S2 1 i = mI S 1 i := fun i => e 1 i (by decide)
    have e2 : ∀ i, mI S2 2 i = mI S 2 i := fun i => e 2 i (by decide)
    have e3 : ∀ i, mI S2 3 i = mI S 3 i := fun i => e 3 i (by decide)
    have e6 : ∀ i, mI S2 6 i = mI S 6 i := fun i => e 6 i (by decide)
    have e7 : ∀ i, mI S2 7 i = mI S 7 i := fun i => e 7 i (by decide)
    unfold q_B q_P q_I
    simp only [e1, e2, e3, e6, e7]
    exact hb
  have bb : ∀ b w, q_bb S b w B → q_bb S2 b w B := fun b w hb => by
    obtain ⟨p, i, l, g1, g2⟩ := hb
    exact ⟨p, i, l, bq _ _ _ _ _ g1, g2⟩
  obtain ⟨⟨h1a, h2a⟩, ⟨h3a, h4⟩, h5, ⟨h6, h7⟩, h8⟩ := h3
  exact ⟨p, i, l, a, bq _ _ _ _ _ h1, h2, ⟨by rw [e 0 0 (by decide)]; exact h1a, h2a⟩, ⟨by rw [f.2.1]; exact h3a, h4⟩, fun k hk => bb _ _ (h5 k hk), ⟨by rw [e 0 0 (by decide)]; exact h6, fun y => bb _ _ (h7 y)⟩, h8.eqm (fun i => ⟨e 10 i (by decide), e 11 i (by decide), by rw [f.2.1]⟩)⟩
/-- the system's calls leave the reference -/
theorem q_M.w (h : q_M S v sv sn sp tk tx ln) (f : q_w S S2) : q_M S2 v sv sn sp tk tx ln := by
  unfold q_M
  rw [(f 14 0 (by decide)).1, (f 13 0 (by decide)).1, (f 14 1 (by decide)).1, (f 14 2 (by decide)).1, (f 14 4 (by decide)).1]
  exact h
/-- a call on both sides: the same end, the same answer, the same state behind it -/
def q_2 (N : Nat) (S : eM) (v : qV) (sv : Nat → qV) (sn : Nat) (sp : qV) (tk : Bool) (tx : Nat → Int32) (ln B : Nat) (c1 c2 : String) (xc : eQ → eX → Prop) (w5 : eM → eQ → Prop) : Prop :=
  ∃ (e : Nat) (r : Int32) (v2 : qV) (sv2 : Nat → qV) (sn2 : Nat) (sp2 : qV) (tk2 : Bool) (tx2 : Nat → Int32) (ln2 : Nat), e ≤ N ∧
    (∀ post X, (e = 1 → X c1 S) → (e = 2 → X c2 S) → (e = 0 → ∀ S2, q_w S S2 → q_Y S2 v2 sv2 sn2 sp2 tk2 tx2 ln2 (B + 61) → post (some (aI r)) S2) → xc post X) ∧
    (e ≠ 0 → q_Y S v2 sv2 sn2 sp2 tk2 tx2 ln2 (B + 61)) ∧
    ∀ S1 post, q_M S1 v sv sn sp tk tx ln → (∀ S2 r2, q_fm S1 S2 → q_M S2 v2 sv2 sn2 sp2 tk2 tx2 ln2 → mI S2 13 0 8 = nI e → (e = 0 → r2 = r) → post (some (aI r2)) S2) → w5 S1 post
theorem q_le_c {b : Bool} {x y n : Nat} (h : x ≤ n) (k : y ≤ n) : cond b x y ≤ n := by cases b <;> assumption
theorem q_le_i {p : Prop} [Decidable p] {x y n : Nat} (h : x ≤ n) (k : y ≤ n) : (if p then x else y) ≤ n := by split <;> assumption
theorem q_2_aft {N : Nat} {c1 c2 : String} {xc : eQ → eX → Prop} {w5 : eM → eQ → Prop} {E B2 : Nat} {r : Int32} {v2 : qV} (hY : q_Y S v sv sn sp tk tx ln B) (hB2 : B2 ≤ B + 61) (hc : ∀ post X, q_cft S v sv sn sp tk tx ln B2 post X E c1 c2 r v2 → xc post X) (h5 : ∀ S1 post, q_M S1 v sv sn sp tk tx ln → q_aft S1 v sv sn sp tk tx ln post E r v2 → w5 S1 post) (hE : E ≤ N) : q_2 N S v sv sn sp tk tx ln B c1 c2 xc w5 := by
  by_cases c : E = 0
  · refine ⟨E, r, v2, q_sv sv sn v, min sn 5 + 1, sp, tk, tx, ln, hE, fun post X g1 g2 g0 => hc post X ⟨g1, g2, fun e S2 w y => g0 e S2 w (y.mono hB2)⟩, fun z => absurd c z, fun S1 post hM h => h5 S1 post hM ⟨fun z => absurd c z, fun e S2 f m t => ?_⟩⟩
    exact h S2 r f m (by rw [t, e]; rfl) (fun _ => rfl)
  · exact ⟨E, r, v, sv, sn, sp, tk, tx, ln, hE, fun post X g1 g2 _ => hc post X ⟨g1, g2, fun e => absurd e c⟩, fun _ => hY.mono (by omega), fun S1 post hM h => h5 S1 post hM ⟨fun _ S2 f m t => h S2 0 f m t (fun e => absurd e c), fun e => absurd e c⟩⟩
theorem q_2_tel {N : Nat} {c1 c2 : String} {xc : eQ → eX → Prop} {w5 : eM → eQ → Prop} {E : Nat} {r : Int32} (hY : q_Y S v sv sn sp tk tx ln B) (hc : ∀ post X, q_tlc S v sv sn sp tk tx ln B post X E c1 c2 r → xc post X) (h5 : ∀ S1 post, q_M S1 v sv sn sp tk tx ln → q_tel S1 v sv sn sp tk tx ln post E r → w5 S1 post) (hE : E ≤ N) : q_2 N S v sv sn sp tk tx ln B c1 c2 xc w5 := by
  refine ⟨E, r, v, sv, sn, sp, tk, tx, ln, hE, fun post X g1 g2 g0 => hc post X ⟨g1, g2, fun e S2 w y => g0 e S2 w (y.mono (by omega))⟩, fun _ => hY.mono (by omega), fun S1 post hM h => h5 S1 post hM (fun S2 f m t => ?_)⟩
  by_cases c : E = 0
  · rw [decide_eq_true c]; exact h S2 r f m t (fun _ => rfl)
  · rw [decide_eq_false c]; exact h S2 0 f m t (fun e => absurd e c)
variable {x y w : Int32}
theorem q_2_pupil (hY : q_Y S v sv sn sp tk tx ln B) : q_2 2 S v sv sn sp tk tx ln B q_IA q_IS (fun post X => x_X4_pupil [aR 0 0, aI x] S post X) (fun S1 post => w_X5_pupil [aR 13 0, aI x] S1 post) := by
  obtain ⟨p, i, l, a, hB, hi, hR⟩ := id hY
  exact q_2_aft hY (by omega) (fun post X h => q_X4_pupil hB hi hR h) (fun S1 post hM h => q_X5_pupil hM hi.ok0 h) (by unfold q_pupilE; repeat (first | decide | apply q_le_c | apply q_le_i))
theorem q_2_instrument (hY : q_Y S v sv sn sp tk tx ln B) : q_2 2 S v sv sn sp tk tx ln B q_IA q_IS (fun post X => x_X4_instrument [aR 0 0, aI x] S post X) (fun S1 post => w_X5_instrument [aR 13 0, aI x] S1 post) := by
  obtain ⟨p, i, l, a, hB, hi, hR⟩ := id hY
  exact q_2_aft hY (by omega) (fun post X h => q_X4_instrument hB hi hR h) (fun S1 post hM h => q_X5_instrument hM hi.ok0 h) (by unfold q_instE; repeat (first | decide | apply q_le_c | apply q_le_i))
theorem q_2_lend (hY : q_Y S v sv sn sp tk tx ln B) : q_2 2 S v sv sn sp tk tx ln B q_IO q_IS (fun post X => x_X4_lend [aR 0 0, aI x, aI y] S post X) (fun S1 post => w_X5_lend [aR 13 0, aI x, aI y] S1 post) := by
  obtain ⟨p, i, l, a, hB, hi, hR⟩ := id hY
  refine q_2_aft hY (by omega) (fun post X h => q_X4_lend hB hi hR h) (fun S1 post hM h => q_X5_lend hM hi.ok0 hi.1.2.2.2.2.2 (fun z => ?_) h) (by unfold q_lendE; repeat (first | decide | apply q_le_c | apply q_le_i))
  obtain ⟨i2, p2, hi2, hp2, -, -, hw⟩ := q_lendE_ok hi.1.1 hi.1.2.1 z
  exact (q_inv_lend hi hi2 hp2 hw).1
theorem q_2_back (hY : q_Y S v sv sn sp tk tx ln B) : q_2 2 S v sv sn sp tk tx ln B q_IO q_IS (fun post X => x_X4_back [aR 0 0, aI x] S post X) (fun S1 post => w_X5_back [aR 13 0, aI x] S1 post) := by
  obtain ⟨p, i, l, a, hB, hi, hR⟩ := id hY
  refine q_2_aft hY (by omega) (fun post X h => q_X4_back hB hi hR h) (fun S1 post hM h => q_X5_back hM hi.ok0 hi.1.2.2.2.2.2 hi.1.2.2.1 (fun i2 hi2 => ?_) h) (by unfold q_backE; repeat (first | decide | apply q_le_c | apply q_le_i))
  obtain ⟨k, d, l2, ⟨e0, e1, e2⟩, ⟨f0, f1, f2⟩, -⟩ := hi.2.2.1 i2 hi2
  exact ⟨l2, by have := hi.1.1; omega, e2⟩
theorem q_2_dent (hY : q_Y S v sv sn sp tk tx ln B) : q_2 2 S v sv sn sp tk tx ln B q_IO q_IA (fun post X => x_X4_dent [aR 0 0, aI x, aI y] S post X) (fun S1 post => w_X5_dent [aR 13 0, aI x, aI y] S1 post) := by
  obtain ⟨p, i, l, a, hB, hi, hR⟩ := id hY
  exact q_2_aft hY (by omega) (fun post X h => q_X4_dent hB hi hR h) (fun S1 post hM h => q_X5_dent hM hi.ok0 h) (by unfold q_dentE; repeat (first | decide | apply q_le_c | apply q_le_i))
theorem q_2_mend (hY : q_Y S v sv sn sp tk tx ln B) : q_2 2 S v sv sn sp tk tx ln B q_IO q_IS (fun post X => x_X4_mend [aR 0 0, aI x] S post X) (fun S1 post => w_X5_mend [aR 13 0, aI x] S1 post) := by
  obtain ⟨p, i, l, a, hB, hi, hR⟩ := id hY
  exact q_2_aft hY (by omega) (fun post X h => q_X4_mend hB hi hR h) (fun S1 post hM h => q_X5_mend hM hi.ok0 h) (by unfold q_mendE; repeat (first | decide | apply q_le_c | apply q_le_i))
theorem q_2_pay (hY : q_Y S v sv sn sp tk tx ln B) : q_2 2 S v sv sn sp tk tx ln B q_IO q_IA (fun post X => x_X4_pay [aR 0 0, aI x, aI y] S post X) (fun S1 post => w_X5_pay [aR 13 0, aI x, aI y] S1 post) := by
  obtain ⟨p, i, l, a, hB, hi, hR⟩ := id hY
  exact q_2_aft hY (by omega) (fun post X h => q_X4_pay hB hi hR h) (fun S1 post hM h => q_X5_pay hM hi.ok0 h) (by unfold q_payE; repeat (first | decide | apply q_le_c | apply q_le_i))
theorem q_2_set (hY : q_Y S v sv sn sp tk tx ln B) : q_2 2 S v sv sn sp tk tx ln B q_IO q_IA (fun post X => x_X4_set [aR 0 0, aI x, aI y] S post X) (fun S1 post => w_X5_set [aR 13 0, aI x, aI y] S1 post) := by
  obtain ⟨p, i, l, a, hB, hi, hR⟩ := id hY
  exact q_2_aft hY (by omega) (fun post X h => q_X4_set hB hi hR h) (fun S1 post hM h => q_X5_set hM h) (by unfold q_setE; repeat (first | decide | apply q_le_c | apply q_le_i))
theorem q_2_pass (hY : q_Y S v sv sn sp tk tx ln B) : q_2 1 S v sv sn sp tk tx ln B q_IA q_IA (fun post X => x_X4_pass [aR 0 0, aI x] S post X) (fun S1 post => w_X5_pass [aR 13 0, aI x] S1 post) := by
  obtain ⟨p, i, l, a, hB, hi, hR⟩ := id hY
  exact q_2_aft hY (by omega) (fun post X h => q_X4_pass hB hi hR h) (fun S1 post hM h => q_X5_pass hM hi.ok0 h) (by unfold q_passE; repeat (first | decide | apply q_le_c | apply q_le_i))
theorem q_2_teach (hY : q_Y S v sv sn sp tk tx ln B) : q_2 2 S v sv sn sp tk tx ln B q_IO q_IS (fun post X => x_X4_teach [aR 0 0, aI x, aI y] S post X) (fun S1 post => w_X5_teach [aR 13 0, aI x, aI y] S1 post) := by
  obtain ⟨p, i, l, a, hB, hi, hR⟩ := id hY
  exact q_2_aft hY (by omega) (fun post X h => q_X4_teach hB hi hR h) (fun S1 post hM h => q_X5_teach hM hi.ok0 h) (by unfold q_teachE; repeat (first | decide | apply q_le_c | apply q_le_i))
theorem q_2_march (hY : q_Y S v sv sn sp tk tx ln B) : q_2 2 S v sv sn sp tk tx ln B q_IO q_IS (fun post X => x_X4_march [aR 0 0, aI x] S post X) (fun S1 post => w_X5_march [aR 13 0, aI x] S1 post) := by
  obtain ⟨p, i, l, a, hB, hi, hR⟩ := id hY
  exact q_2_aft hY (B2 := B + 1) (by omega) (fun post X h => q_X4_march hB hi hR h) (fun S1 post hM h => q_X5_march hM hi.ok0 h) (by unfold q_marchE; repeat (first | decide | apply q_le_c | apply q_le_i))
theorem q_2_told (hY : q_Y S v sv sn sp tk tx ln B) : q_2 2 S v sv sn sp tk tx ln B q_IO q_IA (fun post X => x_X4_told [aR 0 0, aI x, aI y] S post X) (fun S1 post => w_X5_told [aR 13 0, aI x, aI y] S1 post) := by
  obtain ⟨p, i, l, a, hB, hi, hR⟩ := id hY
  exact q_2_tel hY (fun post X h => q_X4_told hB hi hR h) (fun S1 post hM h => q_X5_told hM hi.ok0 h) (by unfold q_toldE; repeat (first | decide | apply q_le_c | apply q_le_i))
theorem q_2_pupilOf (hY : q_Y S v sv sn sp tk tx ln B) : q_2 2 S v sv sn sp tk tx ln B q_IO q_IA (fun post X => x_X4_pupilOf [aR 0 0, aI x, aI y] S post X) (fun S1 post => w_X5_pupilOf [aR 13 0, aI x, aI y] S1 post) := by
  obtain ⟨p, i, l, a, hB, hi, hR⟩ := id hY
  exact q_2_tel hY (fun post X h => q_X4_pupilOf hB hi hR h) (fun S1 post hM h => q_X5_pupilOf hM hi.ok0 h) (by unfold q_pOfE; repeat (first | decide | apply q_le_c | apply q_le_i))
theorem q_2_instrumentOf (hY : q_Y S v sv sn sp tk tx ln B) : q_2 2 S v sv sn sp tk tx ln B q_IO q_IA (fun post X => x_X4_instrumentOf [aR 0 0, aI x, aI y] S post X) (fun S1 post => w_X5_instrumentOf [aR 13 0, aI x, aI y] S1 post) := by
  obtain ⟨p, i, l, a, hB, hi, hR⟩ := id hY
  exact q_2_tel hY (fun post X h => q_X4_instrumentOf hB hi hR h) (fun S1 post hM h => q_X5_instrumentOf hM hi.ok0 h) (by unfold q_iOfE; repeat (first | decide | apply q_le_c | apply q_le_i))
theorem q_2_loan (hY : q_Y S v sv sn sp tk tx ln B) : q_2 1 S v sv sn sp tk tx ln B q_IA q_IA (fun post X => x_X4_loan [aR 0 0, aI x] S post X) (fun S1 post => w_X5_loan [aR 13 0, aI x] S1 post) := by
  obtain ⟨p, i, l, a, hB, hi, hR⟩ := id hY
  refine q_2_tel hY (fun post X h => q_X4_loan hB hi hR h) (fun S1 post hM h => q_X5_loan hM hi.1.2.2.1 hi.1.2.2.2.2.2 (fun k hk => ?_) h) (by unfold q_loanE; repeat (first | decide | apply q_le_c | apply q_le_i))
  obtain ⟨i2, hi2, e, -⟩ := hi.2.2.2.1.1 k hk
  exact ⟨i2, by have := hi.1.2.1; omega, e⟩
theorem q_2_part (hY : q_Y S v sv sn sp tk tx ln B) : q_2 2 S v sv sn sp tk tx ln B q_IO q_IA (fun post X => x_X4_part [aR 0 0, aI x, aI y, aI w] S post X) (fun S1 post => w_X5_part [aR 13 0, aI x, aI y, aI w] S1 post) := by
  obtain ⟨p, i, l, a, hB, hi, hR⟩ := id hY
  exact q_2_tel hY (fun post X h => q_X4_part hB hi hR h) (fun S1 post hM h => q_X5_part hM hi.ok0 h) (by unfold q_partE; repeat (first | decide | apply q_le_c | apply q_le_i))
theorem q_2_count (hY : q_Y S v sv sn sp tk tx ln B) : q_2 1 S v sv sn sp tk tx ln B q_IA q_IA (fun post X => x_X4_count [aR 0 0, aI x] S post X) (fun S1 post => w_X5_count [aR 13 0, aI x] S1 post) := by
  obtain ⟨p, i, l, a, hB, hi, hR⟩ := id hY
  exact q_2_tel hY (fun post X h => q_X4_count hB hi hR h) (fun S1 post hM h => q_X5_count hM hi.ok0 h) (by unfold q_countE; repeat (first | decide | apply q_le_c | apply q_le_i))
theorem q_2_noLoan (hY : q_Y S v sv sn sp tk tx ln B) : q_2 1 S v sv sn sp tk tx ln B q_IO q_IO (fun post X => x_X4_noLoan [aR 0 0, aI x, aI y] S post X) (fun S1 post => w_X5_noLoan [aR 13 0, aI x, aI y] S1 post) := by
  obtain ⟨p, i, l, a, hB, hi, hR⟩ := id hY
  exact q_2_tel hY (fun post X h => q_X4_noLoan hB hi hR h) (fun S1 post hM h => q_X5_noLoan hM hi.ok0 h) (by unfold q_noLoanE; repeat (first | decide | apply q_le_c | apply q_le_i))
theorem q_2_noLesson (hY : q_Y S v sv sn sp tk tx ln B) : q_2 1 S v sv sn sp tk tx ln B q_IO q_IO (fun post X => x_X4_noLesson [aR 0 0, aI x, aI y] S post X) (fun S1 post => w_X5_noLesson [aR 13 0, aI x, aI y] S1 post) := by
  obtain ⟨p, i, l, a, hB, hi, hR⟩ := id hY
  exact q_2_tel hY (fun post X h => q_X4_noLesson hB hi hR h) (fun S1 post hM h => q_X5_noLesson hM hi.ok0 h) (by unfold q_noLessonE; repeat (first | decide | apply q_le_c | apply q_le_i))
theorem q_2_shortOf (hY : q_Y S v sv sn sp tk tx ln B) : q_2 1 S v sv sn sp tk tx ln B q_IO q_IO (fun post X => x_X4_shortOf [aR 0 0, aI x] S post X) (fun S1 post => w_X5_shortOf [aR 13 0, aI x] S1 post) := by
  obtain ⟨p, i, l, a, hB, hi, hR⟩ := id hY
  exact q_2_tel hY (fun post X h => q_X4_shortOf hB hi hR h) (fun S1 post hM h => q_X5_shortOf hM hi.ok0 h) (by unfold q_marE; repeat (first | decide | apply q_le_c | apply q_le_i))
theorem q_2_most (hY : q_Y S v sv sn sp tk tx ln B) : q_2 1 S v sv sn sp tk tx ln B q_IO q_IO (fun post X => x_X4_most [aR 0 0, aI x] S post X) (fun S1 post => w_X5_most [aR 13 0, aI x] S1 post) := by
  obtain ⟨p, i, l, a, hB, hi, hR⟩ := id hY
  exact q_2_tel hY (fun post X h => q_X4_most hB hi hR h) (fun S1 post hM h => q_X5_most hM hi.ok0 h) (by unfold q_marE; repeat (first | decide | apply q_le_c | apply q_le_i))
theorem q_2_helps (hY : q_Y S v sv sn sp tk tx ln B) : q_2 1 S v sv sn sp tk tx ln B q_IO q_IO (fun post X => x_X4_helps [aR 0 0, aI x, aI y] S post X) (fun S1 post => w_X5_helps [aR 13 0, aI x, aI y] S1 post) := by
  obtain ⟨p, i, l, a, hB, hi, hR⟩ := id hY
  exact q_2_tel hY (fun post X h => q_X4_helps hB hi hR h) (fun S1 post hM h => q_X5_helps hM hi.ok0 h) (by unfold q_helpsE; repeat (first | decide | apply q_le_c | apply q_le_i))
end Two
