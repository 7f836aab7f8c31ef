/-! What walks come to: looks at a band. Own work. -/
section BandLooks
/-- band b is what the row says -/
def q_B (S : eM) (b : Nat) (v : qV) (np ni nl : Nat) : Prop := (mI S 1 b 1 = nI np ∧ mI S 1 b 3 = nI ni ∧ mI S 1 b 5 = nI nl ∧ mI S 1 b 7 = v 3 ∧ mI S 1 b 8 = v 4) ∧ (∀ j, j < 8 → mI S 1 b (9 + j) = v (5 + j)) ∧ (∀ j, j < 3 → mI S 7 b j = v (13 + j)) ∧ (∀ p, p < np → q_P S (10 * b + p) v p) ∧ (∀ i, i < ni → q_I S (10 * b + i) v i) ∧ (∀ k, k < nl → mI S 6 b k = v (136 + k)) ∧ ∀ p, p < 10 → mI S 2 (10 * b + p) 5 = 0 ∨ mI S 2 (10 * b + p) 5 = 1
variable {S S1 S2 : eM} {post : eQ} {v : qV} {B b np ni nl : Nat}
theorem q_B.pl (h : q_B S b v np ni nl) {p : Nat} (hp : p < np) : q_P S (10 * b + p) v p := h.2.2.2.1 p hp
theorem q_B.it (h : q_B S b v np ni nl) {i : Nat} (hi : i < ni) : q_I S (10 * b + i) v i := h.2.2.2.2.1 i hi
theorem q_ix_no {x : Int32} {n : Nat} (hn : n ≤ 65536) (h : q_ix x n = false) : x < 0 ∨ (¬ x < 0 ∧ ¬ x < nI n) := by
  unfold q_ix at h
  by_cases z : x < 0
  · exact Or.inl z
  · rw [decide_eq_true z, Bool.true_and] at h
    exact Or.inr ⟨z, of_decide_eq_false h⟩
theorem q_X0_pupilAt {x : Int32} (h1 : mI S 1 b 1 = nI np) (hnp : np ≤ 10) (hy : ∀ p, p < np → x = nI p → post (some (aR 2 (10 * b + p))) S) (hn : q_ix x np = false → post (some (aO none)) S) : w_X0_pupilAt [aR 1 b, aI x] S post := by
  refine e_walk (stops := []) 40 ?_
  cases hz : q_ix x np with
  | false =>
    rcases q_ix_no (by omega) hz with z | ⟨z1, z2⟩
    · exact And.intro (fun _ => hn hz) (fun c => absurd z c)
    · exact And.intro (fun _ => hn hz) (fun _ => And.intro (fun _ => hn hz) (fun c => absurd (show mI S 1 b 1 ≤ x by rw [h1]; exact Int32.not_lt.mp z2) c))
  | true =>
    obtain ⟨p, hp, rfl⟩ := q_ix_of (by omega) hz
    refine And.intro (fun c => absurd c (nI_pos (by omega))) (fun _ => And.intro (fun c => absurd (show mI S 1 b 1 ≤ nI p from c) (by rw [h1]; exact nI_ge hp (by omega))) (fun _ => And.intro (fun _ => ?_) (fun c => absurd (show nI p < nI 10 from nI_lt (by omega) (by decide)) c)))
    refine And.intro (q_in (n := p) (L := 10) rfl (by omega) (by decide)) ?_
    show post (some (aR 2 (10 * b + (nI p).toNatClampNeg))) S
    rw [nI_clamp (by omega)]
    exact hy p hp rfl
theorem q_X0_instrumentAt {x : Int32} (h1 : mI S 1 b 3 = nI ni) (hni : ni ≤ 10) (hy : ∀ i, i < ni → x = nI i → post (some (aR 3 (10 * b + i))) S) (hn : q_ix x ni = false → post (some (aO none)) S) : w_X0_instrumentAt [aR 1 b, aI x] S post := by
  refine e_walk (stops := []) 40 ?_
  cases hz : q_ix x ni with
  | false =>
    rcases q_ix_no (by omega) hz with z | ⟨z1, z2⟩
    · exact And.intro (fun _ => hn hz) (fun c => absurd z c)
    · exact And.intro (fun _ => hn hz) (fun _ => And.intro (fun _ => hn hz) (fun c => absurd (show mI S 1 b 3 ≤ x by rw [h1]; exact Int32.not_lt.mp z2) c))
  | true =>
    obtain ⟨p, hp, rfl⟩ := q_ix_of (by omega) hz
    refine And.intro (fun c => absurd c (nI_pos (by omega))) (fun _ => And.intro (fun c => absurd (show mI S 1 b 3 ≤ nI p from c) (by rw [h1]; exact nI_ge hp (by omega))) (fun _ => And.intro (fun _ => ?_) (fun c => absurd (show nI p < nI 10 from nI_lt (by omega) (by decide)) c)))
    refine And.intro (q_in (n := p) (L := 10) rfl (by omega) (by decide)) ?_
    show post (some (aR 3 (10 * b + (nI p).toNatClampNeg))) S
    rw [nI_clamp (by omega)]
    exact hy p hp rfl
/-- what a pupil's instrument is -/
theorem q_ixm1 {h n : Nat} (hh : h ≤ n) (hn : n ≤ 10) : q_ix (nI h - 1) n = decide (0 < h) := by
  rcases Nat.eq_zero_or_pos h with rfl | z
  · rw [decide_eq_false (by decide)]
    unfold q_ix
    rw [decide_eq_false (show ¬ ¬ nI 0 - 1 < 0 by decide)]; rfl
  · rw [q_pred z, decide_eq_true z]
    exact q_ix_mk (by omega) (by omega)
theorem q_X0_hasRoomForPupil (h1 : mI S 1 b 1 = nI np) (hnp : np ≤ 10) (h : post (some (aI (cond (decide (np = 10)) 0 1))) S) : w_X0_hasRoomForPupil [aR 1 b] S post := by
  refine e_walk (stops := [6]) 20 ?_
  show e_Run tb_X0_hasRoomForPupil post e_no 6 [some (aR 1 b)] [aI 10, aI (mI S 1 b 1)] S 0 0
  rw [h1]
  refine e_walk (stops := []) 20 ?_
  by_cases z : np = 10
  · subst z
    exact And.intro (fun _ => h) (fun c => absurd (by decide) c)
  · rw [decide_eq_false z] at h
    exact And.intro (fun c => absurd c (nI_ge (b := 10) (by omega) (by decide))) (fun _ => h)
theorem q_X0_hasRoomForInstrument (h1 : mI S 1 b 3 = nI ni) (hni : ni ≤ 10) (h : post (some (aI (cond (decide (ni = 10)) 0 1))) S) : w_X0_hasRoomForInstrument [aR 1 b] S post := by
  refine e_walk (stops := [6]) 20 ?_
  show e_Run tb_X0_hasRoomForInstrument post e_no 6 [some (aR 1 b)] [aI 10, aI (mI S 1 b 3)] S 0 0
  rw [h1]
  refine e_walk (stops := []) 20 ?_
  by_cases z : ni = 10
  · subst z
    exact And.intro (fun _ => h) (fun c => absurd (by decide) c)
  · rw [decide_eq_false z] at h
    exact And.intro (fun c => absurd c (nI_ge (b := 10) (by omega) (by decide))) (fun _ => h)
theorem q_X0_isSetting {x : Int32} (h : post (some (aI (cond (q_ix x 3) 1 0))) S) : w_X0_isSetting [aR 1 b, aI x] S post := by
  refine e_walk (stops := []) 20 ?_
  unfold q_ix at h
  refine And.intro (fun c => ?_) (fun c => ?_)
  · rw [decide_eq_false (show ¬ ¬ x < 0 from fun z => z c)] at h
    exact h
  · rw [decide_eq_true (show ¬ x < 0 from c), Bool.true_and] at h
    refine And.intro ⟨rfl, rfl⟩ (And.intro (fun c => ?_) (fun c => ?_))
    · rw [decide_eq_false (show ¬ x < nI 3 from Int32.not_lt.mpr c)] at h
      exact h
    · rw [decide_eq_true (show x < nI 3 from Int32.not_le.mp c)] at h
      exact h
theorem q_X0_highestOf {k : Nat} (hk : k < 3) (h : post (some (aI (e_hs k))) S) : w_X0_highestOf [aR 1 b, aI (nI k)] S post := by
  refine e_walk (stops := [5]) 20 ?_
  refine q_X0_isSetting ?_
  rw [q_ix_mk (by decide) hk]
  refine e_walk (stops := []) 20 ?_
  refine And.intro (fun c => absurd c (by decide)) (fun _ => And.intro ⟨rfl, rfl⟩ (And.intro (q_in (n := k) rfl hk (by decide)) ?_))
  show post (some (aI (e_hs (nI k).toNatClampNeg))) S
  rw [nI_clamp (by omega)]
  exact h
theorem q_X0_settingAt {k : Nat} (hs : ∀ j, j < 3 → mI S 7 b j = v (13 + j)) (hk : k < 3) (h : post (some (aI (v (13 + k)))) S) : w_X0_settingAt [aR 1 b, aI (nI k)] S post := by
  refine e_walk (stops := [5]) 20 ?_
  refine q_X0_isSetting ?_
  rw [q_ix_mk (by decide) hk]
  refine e_walk (stops := []) 20 ?_
  refine And.intro (fun c => absurd c (by decide)) (fun _ => And.intro (q_in (n := k) (L := 3) rfl (by omega) (by decide)) ?_)
  show post (some (aI (mI S 7 b (nI k).toNatClampNeg))) S
  rw [nI_clamp (by omega), hs k hk]
  exact h
theorem q_X0_changeSetting {k : Nat} {y : Int32} (hk : k < 3) (h : post none (sI S 7 b k y)) : w_X0_changeSetting [aR 1 b, aI (nI k), aI y] S post := by
  refine e_walk (stops := [5]) 20 ?_
  refine q_X0_isSetting ?_
  rw [q_ix_mk (by decide) hk]
  refine e_walk (stops := []) 20 ?_
  refine And.intro (fun c => absurd c (by decide)) (fun _ => And.intro (q_in (n := k) (L := 3) rfl (by omega) (by decide)) ?_)
  show post none (sI S 7 b (nI k).toNatClampNeg y)
  rw [nI_clamp (by omega)]
  exact h
theorem q_nI0p {n : Nat} (h : n < 65536) : nI n = 0 ↔ ¬ 0 < nI n := by
  rcases Nat.eq_zero_or_pos n with rfl | z
  · exact ⟨fun _ => by decide, fun _ => rfl⟩
  · exact ⟨fun c => absurd ((nI_eq (b := 0) (by omega) (by decide)).mp c) (by omega), fun c => absurd (nI_lt z (by omega)) c⟩
theorem q_X0_whyNoLoan {i p : Nat} (hi : q_inv B v np ni nl) (hB : q_B S b v np ni nl) (ii : i < ni) (pp : p < np) (h : post (some (aI (nI (q_whyLoan v i p)))) S) : w_X0_whyNoLoan [aR 1 b, aR 3 (10 * b + i), aR 2 (10 * b + p)] S post := by
  obtain ⟨p0, p1, p2, p3, p4, p5, p6⟩ := hB.pl pp
  obtain ⟨i0, i1, i2, i3, i4⟩ := hB.it ii
  have hnp := hi.1.1
  have hni := hi.1.2.1
  obtain ⟨kk, dd, ll, ⟨e1, e2, e3⟩, g, -⟩ := hi.2.2.1 i ii
  obtain ⟨ya, yb, yc, yh, ⟨y1, y2, y3, y4⟩, z, -⟩ := hi.2.1 p pp
  unfold q_whyLoan at h
  refine e_walk (stops := [4]) 20 ?_
  refine q_X1_isLent ?_
  rw [i2]
  by_cases c1 : q_its v i 2 = 0
  · rw [decide_eq_true (q_m1.mpr c1)]
    have n1 : ¬ 0 < q_its v i 2 := by rw [c1]; decide
    rw [if_neg n1] at h
    refine e_walk (stops := [14]) 20 ?_
    refine And.intro (fun _ => ?_) (fun c => absurd rfl c)
    show e_Run tb_X0_whyNoLoan post e_no 14 [some (aR 1 b), some (aR 3 (10 * b + i)), some (aR 2 (10 * b + p))] [aI (-1), aI (mI S 2 (10 * b + p) 4)] S 0 0
    rw [p4]
    by_cases c2 : q_of v p 4 = 0
    · have n2 : ¬ 0 < q_of v p 4 := by rw [c2]; decide
      rw [if_neg n2] at h
      refine e_walk (stops := [23]) 20 ?_
      refine And.intro (fun _ => ?_) (fun c => absurd (q_m1.mpr c2) c)
      refine q_X1_isPlayable ?_
      rw [i1]
      by_cases c3 : q_its v i 1 < 5
      · rw [if_neg (fun z => z c3)] at h
        rw [decide_eq_true c3]
        refine e_walk (stops := [37]) 20 ?_
        refine And.intro (fun c => absurd c (by decide)) (fun _ => ?_)
        show w_X0_settingAt [aR 1 b, aI (nI 1)] S _
        refine q_X0_settingAt (k := 1) hB.2.2.1 (by decide) ?_
        show e_Run tb_X0_whyNoLoan post e_no 37 [some (aR 1 b), some (aR 3 (10 * b + i)), some (aR 2 (10 * b + p))] [aI (v 14), aI (mI S 2 (10 * b + p) 3)] S 0 0
        rw [p3]
        by_cases c4 : v 14 < q_of v p 3
        · rw [if_pos c4] at h
          refine e_walk (stops := []) 20 ?_
          exact And.intro (fun c => absurd c4 (Int32.not_lt.mpr c)) (fun _ => h)
        · rw [if_neg c4] at h
          refine e_walk (stops := [54]) 20 ?_
          refine And.intro (fun _ => ?_) (fun c => absurd (Int32.not_lt.mp c4) c)
          show e_Run tb_X0_whyNoLoan post e_no 54 [some (aR 1 b), some (aR 3 (10 * b + i)), some (aR 2 (10 * b + p))] [aI (3 * mI S 3 (10 * b + i) 0 + 5), aI (mI S 2 (10 * b + p) 0)] S 0 0
          rw [i0, p0]
          refine e_walk (stops := []) 20 ?_
          by_cases c5 : q_of v p 0 < 3 * q_its v i 0 + 5
          · rw [if_pos c5] at h
            exact And.intro (fun c => absurd c5 (Int32.not_lt.mpr c)) (fun _ => h)
          · rw [if_neg c5] at h
            exact And.intro (fun _ => h) (fun c => absurd (Int32.not_lt.mp c5) c)
      · rw [if_pos c3] at h
        rw [decide_eq_false c3]
        refine e_walk (stops := []) 20 ?_
        exact And.intro (fun _ => h) (fun c => absurd rfl c)
    · have n2 : 0 < q_of v p 4 := Decidable.byContradiction fun z => c2 (by rw [y4] at z ⊢; exact (q_nI0p (by omega)).mpr z)
      rw [if_pos n2] at h
      refine e_walk (stops := []) 20 ?_
      exact And.intro (fun c => absurd (q_m1.mp c) c2) (fun _ => h)
  · rw [decide_eq_false (fun y => c1 (q_m1.mp y))]
    have n1 : 0 < q_its v i 2 := Decidable.byContradiction fun z => c1 (by rw [e3] at z ⊢; exact (q_nI0p (by omega)).mpr z)
    rw [if_pos n1] at h
    refine e_walk (stops := []) 20 ?_
    exact And.intro (fun c => absurd c (by decide)) (fun _ => h)
theorem q_X0_billFor {i : Nat} (hB : q_B S b v np ni nl) (ii : i < ni) (hl : q_its v i 2 ≠ 0) (h : post (some (aI (v 13 * q_its v i 4))) S) : w_X0_billFor [aR 1 b, aR 3 (10 * b + i)] S post := by
  obtain ⟨i0, i1, i2, i3, i4⟩ := hB.it ii
  refine e_walk (stops := [5]) 20 ?_
  show w_X0_settingAt [aR 1 b, aI (nI 0)] S _
  refine q_X0_settingAt (k := 0) hB.2.2.1 (by decide) ?_
  refine e_walk (stops := [9]) 20 ?_
  refine q_X1_dentsSinceLent ?_
  rw [i4 hl]
  exact e_walk (stops := []) 20 h
theorem q_X0_loanAt {k : Nat} (hi : q_inv B v np ni nl) (hB : q_B S b v np ni nl) (hk : k < 2 ^ 31) (h : post (some (aI (q_lTold v k))) S) : w_X0_loanAt [aR 1 b, aI (nI k)] S post := by
  have hni := hi.1.2.1
  have hnl := hi.1.2.2.1
  have h5 := hB.1.2.2.1
  unfold q_lTold at h
  rw [hi.1.2.2.2.2.2] at h
  refine e_walk (stops := [21, 23]) 20 ?_
  refine And.intro (fun c => absurd c (nI_pos hk)) (fun _ => ?_)
  refine And.intro (fun c => ?_) (fun c => ?_)
  · have c : mI S 1 b 5 ≤ nI k := c
    rw [h5] at c
    rw [if_neg (Int32.not_lt.mpr c)] at h
    exact e_walk (stops := []) 20 h
  · have c : ¬ mI S 1 b 5 ≤ nI k := c
    rw [h5] at c
    have c : k < nl := (nI_ltI hk (by omega)).mp (Int32.not_le.mp c)
    rw [if_pos (nI_lt c (by omega))] at h
    obtain ⟨i, ii, e1, e2⟩ := hi.2.2.2.1.1 k c
    obtain ⟨i0, i1, i2, i3, i4⟩ := hB.it ii
    rw [e1, nI_clamp (by omega)] at h
    refine And.intro (fun _ => ?_) (fun c2 => absurd (show nI k < nI 10 from nI_lt (by omega) (by decide)) c2)
    have e6 : mI S 6 b (nI k).toNatClampNeg = nI i := by rw [nI_clamp hk, hB.2.2.2.2.2.1 k c]; exact e1
    refine e_walk (stops := [30]) 20 ?_
    refine And.intro (q_in (n := k) (L := 10) rfl (by omega) (by decide)) ?_
    show e_Run tb_X0_loanAt post e_no 30 [some (aR 1 b), some (aI (nI k)), none] [aI (mI S 6 b (nI k).toNatClampNeg), aR 1 b] S 0 0
    rw [e6]
    refine e_walk (stops := [33]) 20 ?_
    refine q_X0_instrumentAt hB.1.2.1 hni (fun j hj e => ?_) (fun z => ?_)
    · have : i = j := (nI_eq (by omega) (by omega)).mp e
      subst this
      refine e_walk (stops := [50]) 20 ?_
      refine And.intro (q_in (n := k) (L := 10) rfl (by omega) (by decide)) ?_
      show e_Run tb_X0_loanAt post e_no 50 [some (aR 1 b), some (aI (nI k)), some (aR 3 (10 * b + i))] [aI (mI S 6 b (nI k).toNatClampNeg), aI 10] S 0 0
      rw [e6]
      refine e_walk (stops := [55]) 20 ?_
      show e_Run tb_X0_loanAt post e_no 55 [some (aR 1 b), some (aI (nI k)), some (aR 3 (10 * b + i))] [aI (mI S 3 (10 * b + i) 2), aI (10 * nI i)] S 0 0
      rw [i2]
      refine e_walk (stops := []) 20 ?_
      rw [Int32.sub_eq_add_neg, Int32.add_assoc, ← Int32.sub_eq_add_neg] at h
      exact h
    · rw [q_ix_mk (by omega) ii] at z
      cases z
theorem q_X0_isSunday (h7 : mI S 1 b 7 = v 3) (h : post (some (aI (cond (q_sun v) 1 0))) S) : w_X0_isSunday [aR 1 b] S post := by
  unfold q_sun at h
  refine e_walk (stops := [4]) 20 ?_
  show e_Run tb_X0_isSunday post e_no 4 [some (aR 1 b)] [aI (mI S 1 b 7)] S 0 0
  rw [h7]
  refine e_walk (stops := []) 20 ?_
  refine And.intro (by decide) (And.intro (fun c => ?_) (fun c => ?_))
  · rw [decide_eq_true (show v 3 - v 3 / 7 * 7 = 6 from c)] at h
    exact h
  · rw [decide_eq_false (show ¬ v 3 - v 3 / 7 * 7 = 6 from c)] at h
    exact h
theorem q_X0_heightOf {t : Nat} (ht : t < 3) (h : post (some (aI (nI (8 + 6 * t)))) S) : w_X0_heightOf [aI (nI t)] S post := by
  refine e_walk (stops := []) 20 ?_
  rcases (show t = 0 ∨ t = 1 ∨ t = 2 by omega) with rfl | rfl | rfl
  · exact And.intro (fun _ => h) (fun c => absurd rfl c)
  · exact And.intro (fun c => absurd c (by decide)) (fun _ => And.intro (fun _ => h) (fun c => absurd rfl c))
  · exact And.intro (fun c => absurd c (by decide)) (fun _ => And.intro (fun c => absurd c (by decide)) (fun _ => h))
theorem q_X0_feeOf {t : Nat} (ht : t < 3) (h : post (some (aI (nI (q_fee t)))) S) : w_X0_feeOf [aI (nI t)] S post := by
  refine e_walk (stops := []) 20 ?_
  rcases (show t = 0 ∨ t = 1 ∨ t = 2 by omega) with rfl | rfl | rfl
  · exact And.intro (fun _ => h) (fun c => absurd rfl c)
  · exact And.intro (fun c => absurd c (by decide)) (fun _ => And.intro (fun _ => h) (fun c => absurd rfl c))
  · exact And.intro (fun c => absurd c (by decide)) (fun _ => And.intro (fun c => absurd c (by decide)) (fun _ => h))
theorem q_X4_isTeacher {x : Int32} (h : post (some (aI (cond (q_ix x 3) 1 0))) S) : w_X4_isTeacher [aI x] S post := by
  refine e_walk (stops := []) 20 ?_
  unfold q_ix at h
  refine And.intro (fun c => ?_) (fun c => ?_)
  · rw [decide_eq_false (show ¬ ¬ x < 0 from fun z => z c)] at h
    exact h
  · rw [decide_eq_true (show ¬ x < 0 from c), Bool.true_and] at h
    refine And.intro (fun c => ?_) (fun c => ?_)
    · rw [decide_eq_false (show ¬ x < nI 3 from Int32.not_lt.mpr c)] at h
      exact h
    · rw [decide_eq_true (show x < nI 3 from Int32.not_le.mp c)] at h
      exact h
theorem q_X4_isMarch {x : Int32} (h : post (some (aI (cond (q_ix x 4) 1 0))) S) : w_X4_isMarch [aI x] S post := by
  refine e_walk (stops := []) 20 ?_
  unfold q_ix at h
  refine And.intro (fun c => ?_) (fun c => ?_)
  · rw [decide_eq_false (show ¬ ¬ x < 0 from fun z => z c)] at h
    exact h
  · rw [decide_eq_true (show ¬ x < 0 from c), Bool.true_and] at h
    refine And.intro (fun c => ?_) (fun c => ?_)
    · rw [decide_eq_false (show ¬ x < nI 4 from Int32.not_lt.mpr c)] at h
      exact h
    · rw [decide_eq_true (show x < nI 4 from Int32.not_le.mp c)] at h
      exact h
/-- a pupil's own instrument -/
theorem q_X0_own {p : Nat} {x : Int32} (hi : q_inv B v np ni nl) (hB : q_B S b v np ni nl) (pp : p < np) (hx : x = q_of v p 4 - 1) (hy : 0 < q_has v p → q_has v p - 1 < ni → post (some (aR 3 (10 * b + (q_has v p - 1)))) S) (hn : q_has v p = 0 → post (some (aO none)) S) : w_X0_instrumentAt [aR 1 b, aI x] S post := by
  have hni := hi.1.2.1
  obtain ⟨h1, h2, h3⟩ := hi.ok0.has pp
  rw [hx, h3]
  refine q_X0_instrumentAt hB.1.2.1 hni (fun i ii e => ?_) (fun z => ?_)
  · have h0 : 0 < q_has v p := by
      rcases Nat.eq_zero_or_pos (q_has v p) with z | z
      · have : q_ix (nI (q_has v p) - 1) ni = true := by rw [e]; exact q_ix_mk (by omega) ii
        rw [q_ixm1 h2 hni, z] at this
        exact absurd this (by decide)
      · exact z
    rw [q_pred h0] at e
    have : q_has v p - 1 = i := (nI_eq (by omega) (by omega)).mp e
    subst this
    exact hy h0 ii
  · rw [q_ixm1 h2 hni] at z
    exact hn (by have := of_decide_eq_false z; omega)
theorem q_X0_breathOfLesson {p : Nat} (hi : q_inv B v np ni nl) (hB : q_B S b v np ni nl) (pp : p < np) (h0 : 0 < q_has v p) (h : post (some (aI (3 + q_its v (q_has v p - 1) 0))) S) : w_X0_breathOfLesson [aR 1 b, aR 2 (10 * b + p)] S post := by
  obtain ⟨p0, p1, p2, p3, p4, p5, p6⟩ := hB.pl pp
  refine e_walk (stops := [8]) 20 ?_
  refine q_X0_own hi hB pp p4 (fun _ ii => ?_) (fun z => absurd h0 (by omega))
  obtain ⟨i0, i1, i2, i3, i4⟩ := hB.it ii
  refine e_walk (stops := [22]) 20 ?_
  show e_Run tb_X0_breathOfLesson post e_no 22 [some (aR 1 b), some (aR 2 (10 * b + p)), some (aR 3 (10 * b + (q_has v p - 1)))] [aI (mI S 3 (10 * b + (q_has v p - 1)) 0), aI 3] S 0 0
  rw [i0]
  exact e_walk (stops := []) 20 h
theorem q_X0_whyNoLesson {p t : Nat} (hi : q_inv B v np ni nl) (hB : q_B S b v np ni nl) (pp : p < np) (ht : t < 3) (h : post (some (aI (nI (q_whyLesson v p t)))) S) : w_X0_whyNoLesson [aR 1 b, aR 2 (10 * b + p), aI (nI t)] S post := by
  obtain ⟨p0, p1, p2, p3, p4, p5, p6⟩ := hB.pl pp
  obtain ⟨ya, yb, yc, yh, ⟨y1, y2, y3, y4⟩, yz, y5, -⟩ := hi.2.1 p pp
  unfold q_whyLesson at h
  refine e_walk (stops := [8]) 20 ?_
  refine q_X0_own hi hB pp p4 (fun h0 ii => ?_) (fun z => ?_)
  · obtain ⟨i0, i1, i2, i3, i4⟩ := hB.it ii
    refine e_walk (stops := [17]) 20 ?_
    refine q_X1_isPlayable ?_
    rw [i1]
    by_cases c1 : q_its v (q_has v p - 1) 1 < 5
    · have n1 : q_plays v p = true := by unfold q_plays; rw [decide_eq_true h0, decide_eq_true c1]; rfl
      rw [if_neg (by rw [n1]; decide)] at h
      rw [decide_eq_true c1]
      refine e_walk (stops := [26]) 20 ?_
      refine And.intro (fun c => absurd c (by decide)) (fun _ => ?_)
      show e_Run tb_X0_whyNoLesson post e_no 26 [some (aR 1 b), some (aR 2 (10 * b + p)), some (aI (nI t)), some (aR 3 (10 * b + (q_has v p - 1)))] [aI (mI S 2 (10 * b + p) 5)] S 0 0
      rw [p5]
      rcases y5 with y5 | y5
      · rw [y5] at h ⊢
        rw [if_neg (by decide)] at h
        refine e_walk (stops := [35]) 20 ?_
        refine And.intro (fun _ => ?_) (fun c => absurd rfl c)
        show e_Run tb_X0_whyNoLesson post e_no 35 [some (aR 1 b), some (aR 2 (10 * b + p)), some (aI (nI t)), some (aR 3 (10 * b + (q_has v p - 1)))] [aI (mI S 2 (10 * b + p) 2)] S 0 0
        rw [p2]
        refine e_walk (stops := [39]) 20 ?_
        refine q_X0_heightOf ht ?_
        by_cases c3 : q_of v p 2 < nI (8 + 6 * t)
        · rw [if_neg (fun z => z c3)] at h
          refine e_walk (stops := [48]) 20 ?_
          refine And.intro (fun _ => ?_) (fun c => absurd c3 c)
          show e_Run tb_X0_whyNoLesson post e_no 48 [some (aR 1 b), some (aR 2 (10 * b + p)), some (aI (nI t)), some (aR 3 (10 * b + (q_has v p - 1)))] [aI (mI S 2 (10 * b + p) 1)] S 0 0
          rw [p1]
          refine e_walk (stops := [53]) 20 ?_
          refine q_X0_breathOfLesson hi hB pp h0 ?_
          by_cases c4 : q_of v p 1 < 3 + q_its v (q_has v p - 1) 0
          · rw [if_pos c4] at h
            refine e_walk (stops := []) 20 ?_
            exact And.intro (fun c => absurd c4 (Int32.not_lt.mpr c)) (fun _ => h)
          · rw [if_neg c4] at h
            refine e_walk (stops := []) 20 ?_
            exact And.intro (fun _ => h) (fun c => absurd (Int32.not_lt.mp c4) c)
        · rw [if_pos c3] at h
          refine e_walk (stops := []) 20 ?_
          exact And.intro (fun c => absurd c c3) (fun _ => h)
      · rw [y5] at h ⊢
        rw [if_pos rfl] at h
        refine e_walk (stops := []) 20 ?_
        exact And.intro (fun c => absurd c (by decide)) (fun _ => h)
    · have n1 : q_plays v p = false := by unfold q_plays; rw [decide_eq_false c1, Bool.and_false]
      rw [if_pos n1] at h
      rw [decide_eq_false c1]
      refine e_walk (stops := []) 20 ?_
      exact And.intro (fun _ => h) (fun c => absurd rfl c)
  · have n1 : q_plays v p = false := by unfold q_plays; rw [z]; rfl
    rw [if_pos n1] at h
    exact e_walk (stops := []) 20 h
theorem q_X0_mayMarch (hi : q_inv B v np ni nl) (hB : q_B S b v np ni nl) (h : post (some (aI (cond (q_sun v && decide (¬ v 4 = 1)) 1 0))) S) : w_X0_mayMarch [aR 1 b] S post := by
  refine e_walk (stops := [4]) 20 ?_
  refine q_X0_isSunday hB.1.2.2.2.1 ?_
  cases z : q_sun v with
  | false =>
    rw [z] at h
    refine e_walk (stops := []) 20 ?_
    exact And.intro (fun _ => h) (fun c => absurd rfl c)
  | true =>
    rw [z] at h
    refine e_walk (stops := [11]) 20 ?_
    refine And.intro (fun c => absurd c (by decide)) (fun _ => ?_)
    show e_Run tb_X0_mayMarch post e_no 11 [some (aR 1 b)] [aI (mI S 1 b 8)] S 0 0
    rw [hB.1.2.2.2.2]
    rcases hi.2.2.2.2.2.1 with y | y
    · rw [y] at h ⊢
      refine e_walk (stops := []) 20 ?_
      exact And.intro (fun _ => h) (fun c => absurd rfl c)
    · rw [y] at h ⊢
      refine e_walk (stops := []) 20 ?_
      exact And.intro (fun c => absurd c (by decide)) (fun _ => h)
theorem q_X0_debtsTogether (hi : q_inv B v np ni nl) (hB : q_B S b v np ni nl) (h : post (some (aI (q_deb v np))) S) : w_X0_debtsTogether [aR 1 b] S post := by
  have hnp := hi.1.1
  have loop : ∀ d k, k + d = np → ∀ l3, e_Run tb_X0_debtsTogether post e_no 4 [some (aR 1 b), some (aI (q_deb v k)), some (aI (nI k)), l3] [] S 0 0 := by
    intro d
    induction d with
    | zero =>
      intro k hk l3
      obtain rfl : k = np := by omega
      refine e_walk (stops := [9]) 20 ?_
      show e_Run tb_X0_debtsTogether post e_no 9 [some (aR 1 b), some (aI (q_deb v k)), some (aI (nI k)), l3] [aI (mI S 1 b 1), aI (nI k)] S 0 0
      rw [hB.1.1]
      refine e_walk (stops := []) 20 ?_
      exact And.intro (fun _ => h) (fun c => absurd (Int32.le_refl _) c)
    | succ d ih =>
      intro k hk l3
      refine e_walk (stops := [9]) 20 ?_
      show e_Run tb_X0_debtsTogether post e_no 9 [some (aR 1 b), some (aI (q_deb v k)), some (aI (nI k)), l3] [aI (mI S 1 b 1), aI (nI k)] S 0 0
      rw [hB.1.1]
      refine e_walk (stops := [17]) 20 ?_
      refine And.intro (fun c => absurd c (nI_ge (a := k) (b := np) (by omega) (by omega))) (fun _ => ?_)
      refine q_X0_pupilAt hB.1.1 hnp (fun p pp e => ?_) (fun z => ?_)
      · have : k = p := (nI_eq (by omega) (by omega)).mp e
        subst this
        obtain ⟨p0, p1, p2, p3, -⟩ := hB.pl pp
        refine e_walk (stops := [31]) 20 ?_
        show e_Run tb_X0_debtsTogether post e_no 31 [some (aR 1 b), some (aI (q_deb v k)), some (aI (nI k)), some (aR 2 (10 * b + k))] [aI (mI S 2 (10 * b + k) 3), aI (q_deb v k)] S 0 0
        rw [p3]
        refine e_walk (stops := [4]) 20 ?_
        show e_Run tb_X0_debtsTogether post e_no 4 [some (aR 1 b), some (aI (q_deb v k + q_of v k 3)), some (aI (nI k + 1)), some (aR 2 (10 * b + k))] [] S 0 0
        rw [nI_1]
        exact ih (k + 1) (by omega) _
      · rw [q_ix_mk (by omega) (show k < np by omega)] at z
        cases z
  refine e_walk (stops := [4]) 20 ?_
  exact loop np 0 (by omega) _
theorem q_X0_number {w : Nat} (hi : q_inv B v np ni nl) (hB : q_B S b v np ni nl) (hw : w < 15) (sn : Nat) (h : post (some (aI (q_cTold v np sn w))) S) : w_X0_number [aR 1 b, aI (nI w)] S post := by
  have hB0 := hB
  obtain ⟨⟨f1, f3, f5, f7, f8⟩, f9, -⟩ := hB
  have g := hi.1.2.2.2
  have r : ∀ j, j < 8 → ∀ x, q_cTold v np sn w = v (5 + j) → x = mI S 1 b (9 + j) → post (some (aI x)) S := fun j hj x e1 e2 => by rw [e2, f9 j hj, ← e1]; exact h
  refine e_walk (stops := [96, 175]) 20 ?_
  rcases (show w = 0 ∨ w = 1 ∨ w = 2 ∨ w = 3 ∨ w = 4 ∨ w = 5 ∨ w = 6 ∨ w = 7 ∨ w = 8 ∨ w = 9 ∨ w = 10 ∨ w = 11 ∨ w = 12 ∨ w = 13 ∨ w = 14 by omega) with rfl | rfl | rfl | rfl | rfl | rfl | rfl | rfl | rfl | rfl | rfl | rfl | rfl | rfl | rfl
  · exact And.intro (fun _ => show post (some (aI (mI S 1 b 1))) S by rw [show mI S 1 b 1 = v 0 from f1.trans g.1.symm]; exact h) (fun c => absurd rfl c)
  · exact And.intro (fun c => absurd c (by decide)) (fun _ => And.intro (fun _ => show post (some (aI (mI S 1 b 3))) S by rw [show mI S 1 b 3 = v 1 from f3.trans g.2.1.symm]; exact h) (fun c => absurd rfl c))
  · exact And.intro (fun c => absurd c (by decide)) (fun _ => And.intro (fun c => absurd c (by decide)) (fun _ => And.intro (fun _ => show post (some (aI (mI S 1 b 5))) S by rw [show mI S 1 b 5 = v 2 from f5.trans g.2.2.symm]; exact h) (fun c => absurd rfl c)))
  · exact And.intro (fun c => absurd c (by decide)) (fun _ => And.intro (fun c => absurd c (by decide)) (fun _ => And.intro (fun c => absurd c (by decide)) (fun _ => And.intro (fun _ => show post (some (aI (mI S 1 b 7))) S by rw [f7]; exact h) (fun c => absurd rfl c))))
  · refine And.intro (fun c => absurd c (by decide)) (fun _ => And.intro (fun c => absurd c (by decide)) (fun _ => And.intro (fun c => absurd c (by decide)) (fun _ => And.intro (fun c => absurd c (by decide)) (fun _ => And.intro (fun _ => ?_) (fun c => absurd rfl c)))))
    refine q_X0_isSunday f7 ?_
    rw [show q_cTold v np sn 4 = cond (q_sun v) 1 0 from rfl] at h
    cases z : q_sun v with
    | false => rw [z] at h; exact e_walk (stops := []) 20 (And.intro (fun _ => h) (fun c => absurd rfl c))
    | true => rw [z] at h; exact e_walk (stops := []) 20 (And.intro (fun c => absurd c (by decide)) (fun _ => h))
  · exact And.intro (fun c => absurd c (by decide)) (fun _ => And.intro (fun c => absurd c (by decide)) (fun _ => And.intro (fun c => absurd c (by decide)) (fun _ => And.intro (fun c => absurd c (by decide)) (fun _ => And.intro (fun c => absurd c (by decide)) (fun _ => And.intro (fun _ => r 0 (by decide) _ rfl rfl) (fun c => absurd rfl c))))))
  · exact And.intro (fun c => absurd c (by decide)) (fun _ => And.intro (fun c => absurd c (by decide)) (fun _ => And.intro (fun c => absurd c (by decide)) (fun _ => And.intro (fun c => absurd c (by decide)) (fun _ => And.intro (fun c => absurd c (by decide)) (fun _ => And.intro (fun c => absurd c (by decide)) (fun _ => And.intro (fun _ => r 1 (by decide) _ rfl rfl) (fun c => absurd rfl c)))))))
  · exact And.intro (fun c => absurd c (by decide)) (fun _ => And.intro (fun c => absurd c (by decide)) (fun _ => And.intro (fun c => absurd c (by decide)) (fun _ => And.intro (fun c => absurd c (by decide)) (fun _ => And.intro (fun c => absurd c (by decide)) (fun _ => And.intro (fun c => absurd c (by decide)) (fun _ => And.intro (fun c => absurd c (by decide)) (fun _ => And.intro (fun _ => r 2 (by decide) _ rfl rfl) (fun c => absurd rfl c))))))))
  · exact And.intro (fun c => absurd c (by decide)) (fun _ => And.intro (fun c => absurd c (by decide)) (fun _ => And.intro (fun c => absurd c (by decide)) (fun _ => And.intro (fun c => absurd c (by decide)) (fun _ => And.intro (fun c => absurd c (by decide)) (fun _ => And.intro (fun c => absurd c (by decide)) (fun _ => And.intro (fun c => absurd c (by decide)) (fun _ => And.intro (fun c => absurd c (by decide)) (fun _ => And.intro (fun _ => show post (some (aI (mI S 1 b (9 + 3) + 1000000))) S by rw [f9 3 (by decide)]; exact h) (fun c => absurd rfl c)))))))))
  · exact And.intro (fun c => absurd c (by decide)) (fun _ => And.intro (fun c => absurd c (by decide)) (fun _ => And.intro (fun c => absurd c (by decide)) (fun _ => And.intro (fun c => absurd c (by decide)) (fun _ => And.intro (fun c => absurd c (by decide)) (fun _ => And.intro (fun c => absurd c (by decide)) (fun _ => And.intro (fun c => absurd c (by decide)) (fun _ => And.intro (fun c => absurd c (by decide)) (fun _ => And.intro (fun c => absurd c (by decide)) (fun _ => And.intro (fun _ => show post (some (aI (mI S 1 b (9 + 4) + mI S 1 b (9 + 5) - mI S 1 b (9 + 6) - mI S 1 b (9 + 7) + 1000000))) S by rw [f9 4 (by decide), f9 5 (by decide), f9 6 (by decide), f9 7 (by decide)]; exact h) (fun c => absurd rfl c))))))))))
  · exact And.intro (fun c => absurd c (by decide)) (fun _ => And.intro (fun c => absurd c (by decide)) (fun _ => And.intro (fun c => absurd c (by decide)) (fun _ => And.intro (fun c => absurd c (by decide)) (fun _ => And.intro (fun c => absurd c (by decide)) (fun _ => And.intro (fun c => absurd c (by decide)) (fun _ => And.intro (fun c => absurd c (by decide)) (fun _ => And.intro (fun c => absurd c (by decide)) (fun _ => And.intro (fun c => absurd c (by decide)) (fun _ => And.intro (fun c => absurd c (by decide)) (fun _ => And.intro (fun _ => r 4 (by decide) _ rfl rfl) (fun c => absurd rfl c)))))))))))
  · exact And.intro (fun c => absurd c (by decide)) (fun _ => And.intro (fun c => absurd c (by decide)) (fun _ => And.intro (fun c => absurd c (by decide)) (fun _ => And.intro (fun c => absurd c (by decide)) (fun _ => And.intro (fun c => absurd c (by decide)) (fun _ => And.intro (fun c => absurd c (by decide)) (fun _ => And.intro (fun c => absurd c (by decide)) (fun _ => And.intro (fun c => absurd c (by decide)) (fun _ => And.intro (fun c => absurd c (by decide)) (fun _ => And.intro (fun c => absurd c (by decide)) (fun _ => And.intro (fun c => absurd c (by decide)) (fun _ => And.intro (fun _ => r 5 (by decide) _ rfl rfl) (fun c => absurd rfl c))))))))))))
  · exact And.intro (fun c => absurd c (by decide)) (fun _ => And.intro (fun c => absurd c (by decide)) (fun _ => And.intro (fun c => absurd c (by decide)) (fun _ => And.intro (fun c => absurd c (by decide)) (fun _ => And.intro (fun c => absurd c (by decide)) (fun _ => And.intro (fun c => absurd c (by decide)) (fun _ => And.intro (fun c => absurd c (by decide)) (fun _ => And.intro (fun c => absurd c (by decide)) (fun _ => And.intro (fun c => absurd c (by decide)) (fun _ => And.intro (fun c => absurd c (by decide)) (fun _ => And.intro (fun c => absurd c (by decide)) (fun _ => And.intro (fun c => absurd c (by decide)) (fun _ => And.intro (fun _ => r 6 (by decide) _ rfl rfl) (fun c => absurd rfl c)))))))))))))
  · exact And.intro (fun c => absurd c (by decide)) (fun _ => And.intro (fun c => absurd c (by decide)) (fun _ => And.intro (fun c => absurd c (by decide)) (fun _ => And.intro (fun c => absurd c (by decide)) (fun _ => And.intro (fun c => absurd c (by decide)) (fun _ => And.intro (fun c => absurd c (by decide)) (fun _ => And.intro (fun c => absurd c (by decide)) (fun _ => And.intro (fun c => absurd c (by decide)) (fun _ => And.intro (fun c => absurd c (by decide)) (fun _ => And.intro (fun c => absurd c (by decide)) (fun _ => And.intro (fun c => absurd c (by decide)) (fun _ => And.intro (fun c => absurd c (by decide)) (fun _ => And.intro (fun c => absurd c (by decide)) (fun _ => And.intro (fun _ => r 7 (by decide) _ rfl rfl) (fun c => absurd rfl c))))))))))))))
  · refine And.intro (fun c => absurd c (by decide)) (fun _ => And.intro (fun c => absurd c (by decide)) (fun _ => And.intro (fun c => absurd c (by decide)) (fun _ => And.intro (fun c => absurd c (by decide)) (fun _ => And.intro (fun c => absurd c (by decide)) (fun _ => And.intro (fun c => absurd c (by decide)) (fun _ => And.intro (fun c => absurd c (by decide)) (fun _ => And.intro (fun c => absurd c (by decide)) (fun _ => And.intro (fun c => absurd c (by decide)) (fun _ => And.intro (fun c => absurd c (by decide)) (fun _ => And.intro (fun c => absurd c (by decide)) (fun _ => And.intro (fun c => absurd c (by decide)) (fun _ => And.intro (fun c => absurd c (by decide)) (fun _ => And.intro (fun c => absurd c (by decide)) (fun _ => ?_))))))))))))))
    exact q_X0_debtsTogether hi hB0 (e_walk (stops := []) 20 h)
end BandLooks
