/-! What walks come to: changes of a band, 2. Own work. -/
section BandActs2
variable {S S1 S2 : eM} {post : eQ} {v v2 : qV} {B b np ni nl : Nat}
theorem q_subadd (a c d : Int32) : a - (c + d) = a - c - d := by
  rw [Int32.sub_eq_add_neg, Int32.neg_add, Int32.sub_eq_add_neg (a := -c), ← Int32.add_assoc, ← Int32.sub_eq_add_neg, ← Int32.sub_eq_add_neg]
theorem q_X0_addInstrument {a : Nat} (hi : q_inv B v np ni nl) (hB : q_B S b v np ni nl) (hn : ni < 10) (h : ∀ S2, q_fb b S S2 → q_B S2 b (q_inst v ni (nI a)) np (ni + 1) nl → post (some (aI (nI ni))) S2) : w_X0_addInstrument [aR 1 b, aI (nI a)] S post := by
  have hnp := hi.1.1
  have hnl := hi.1.2.2.1
  have hz := hi.2.2.2.2.1.2
  refine e_walk (stops := [10]) 20 ?_
  show e_Run tb_X0_addInstrument post e_no 10 [some (aR 1 b), some (aI (nI a)), none] [] (sI S 1 b 3 (mI S 1 b 3 + 1)) 0 0
  rw [hB.1.2.1, nI_1]
  have e1 : mI (sI S 1 b 3 (nI (ni + 1))) 1 b 3 = nI (ni + 1) := q_s_self
  refine e_walk (stops := [17]) 20 ?_
  show e_Run tb_X0_addInstrument post e_no 17 [some (aR 1 b), some (aI (nI a)), none] [aI (mI (sI S 1 b 3 (nI (ni + 1))) 1 b 3 - 1), aR 1 b] (sI S 1 b 3 (nI (ni + 1))) 0 0
  rw [e1, show nI (ni + 1) - 1 = nI ni from nI_pred ni]
  refine e_walk (stops := [20]) 20 ?_
  refine q_X0_instrumentAt e1 (by omega) (fun p pp e => ?_) (fun z => ?_)
  · have : ni = p := (nI_eq (by omega) (by omega)).mp e
    subst this
    refine e_walk (stops := [30]) 20 ?_
    refine q_X1_come ?_
    refine e_walk (stops := [35]) 20 ?_
    show e_Run tb_X0_addInstrument post e_no 35 [some (aR 1 b), some (aI (nI a)), some (aR 3 (10 * b + ni))] [aI 1, aI (mI (sI (sI (sI (sI (sI (sI S 1 b 3 (nI (ni + 1))) 3 (10 * b + ni) 0 (nI a)) 3 (10 * b + ni) 1 0) 3 (10 * b + ni) 2 (-1)) 3 (10 * b + ni) 3 0) 3 (10 * b + ni) 4 0) 1 b 3)] _ 0 0
    rw [q_s_ne (by omega), q_s_ne (by omega), q_s_ne (by omega), q_s_ne (by omega), q_s_ne (by omega), e1]
    refine e_walk (stops := []) 20 ?_
    show post (some (aI (nI (ni + 1) - 1))) _
    rw [show nI (ni + 1) - 1 = nI ni from nI_pred ni]
    have r2 : q_rgn b 3 (10 * b + ni) := q_rgn_i hn
    refine h _ ((((((q_fb.rf.set q_rgn_b).set r2).set r2).set r2).set r2).set r2) ⟨?_, fun j hj => ?_, fun j hj => ?_, fun p2 q => ?_, fun i2 q => ?_, fun k q => ?_, fun p2 q => ?_⟩
    · obtain ⟨a1, a2, a3, a4, a5⟩ := hB.1
      unfold q_inst
      simp (disch := omega) only [q_s_ne, q_s_eq, q_un, q_uq]
      exact ⟨a1, trivial, a3, a4, a5⟩
    · have := hB.2.1 j hj
      unfold q_inst
      simp (disch := omega) only [q_s_ne, q_s_eq, q_un, q_uq]
      exact this
    · have := hB.2.2.1 j hj
      unfold q_inst
      simp (disch := omega) only [q_s_ne, q_s_eq, q_un, q_uq]
      exact this
    · have := hB.pl q
      unfold q_P q_of at this
      unfold q_P q_of q_inst
      simp (disch := omega) only [q_s_ne, q_s_eq, q_un, q_uq]
      exact this
    · by_cases hp : i2 = ni
      · subst hp
        unfold q_I q_its q_inst
        simp (disch := omega) only [q_s_ne, q_s_eq, q_un, q_uq]
        rw [hz _ (by omega) (by omega), hz _ (by omega) (by omega), hz _ (by omega) (by omega)]
        exact ⟨trivial, rfl, rfl, rfl, fun z => absurd rfl z⟩
      · have := hB.it (show i2 < ni by omega)
        unfold q_I q_its at this
        unfold q_I q_its q_inst
        simp (disch := omega) only [q_s_ne, q_s_eq, q_un, q_uq]
        exact this
    · have := hB.2.2.2.2.2.1 k q
      unfold q_inst
      simp (disch := omega) only [q_s_ne, q_s_eq, q_un, q_uq]
      exact this
    · have := hB.2.2.2.2.2.2 p2 q
      simp (disch := omega) only [q_s_ne, q_s_eq]
      exact this
  · rw [q_ix_mk (by omega) (show ni < ni + 1 by omega)] at z
    cases z
theorem q_X0_takePayment {p : Nat} {y : Int32} (hi : q_inv B v np ni nl) (hB : q_B S b v np ni nl) (pp : p < np) (h : ∀ S2, q_fb b S S2 → q_B S2 b (q_pay v p y) np ni nl → post (some (aI (q_pays v p y))) S2) : w_X0_takePayment [aR 1 b, aR 2 (10 * b + p), aI y] S post := by
  have hnp := hi.1.1
  have hni := hi.1.2.1
  have hnl := hi.1.2.2.1
  obtain ⟨p0, p1, p2, p3, p4, p5, p6⟩ := hB.pl pp
  have hm : (if q_of v p 3 < y then q_of v p 3 else y) = q_pays v p y := by
    unfold q_pays
    by_cases c1 : y < q_of v p 3
    · rw [if_pos c1, if_neg (fun z => Int32.lt_irrefl (Int32.lt_trans c1 z))]
    · rw [if_neg c1]
      by_cases c2 : q_of v p 3 < y
      · rw [if_pos c2]
      · rw [if_neg c2]
        exact Int32.le_antisymm (Int32.not_lt.mp c2) (Int32.not_lt.mp c1)
  refine e_walk (stops := [5]) 20 ?_
  show e_Run tb_X0_takePayment post e_no 5 [some (aR 1 b), some (aR 2 (10 * b + p)), some (aI y), none] [aI (mI S 2 (10 * b + p) 3), aI y] S 0 0
  rw [p3]
  refine e_walk (stops := [8]) 20 ?_
  show e_Run tb_X0_takePayment post e_no 8 [some (aR 1 b), some (aR 2 (10 * b + p)), some (aI y), none] [aI (if q_of v p 3 < y then q_of v p 3 else y)] S 0 0
  rw [hm]
  generalize hq0 : q_pays v p y = x at *
  refine e_walk (stops := []) 40 ?_
  show post (some (aI x)) (sI (sI (sI S 2 (10 * b + p) 3 (mI S 2 (10 * b + p) 3 - x)) 1 b 14 (mI (sI S 2 (10 * b + p) 3 (mI S 2 (10 * b + p) 3 - x)) 1 b 14 + x)) 1 b 12 (mI (sI (sI S 2 (10 * b + p) 3 (mI S 2 (10 * b + p) 3 - x)) 1 b 14 (mI (sI S 2 (10 * b + p) 3 (mI S 2 (10 * b + p) 3 - x)) 1 b 14 + x)) 1 b 12 + x))
  rw [p3, q_s_ne (show ¬ (1 = 2 ∧ b = 10 * b + p ∧ 14 = 3) by omega), q_s_ne (show ¬ (1 = 1 ∧ b = b ∧ 12 = 14) by omega), q_s_ne (show ¬ (1 = 2 ∧ b = 10 * b + p ∧ 12 = 3) by omega), hB.2.1 5 (by decide), hB.2.1 3 (by decide)]
  unfold q_pay at h
  rw [hq0] at h
  have r2 : q_rgn b 2 (10 * b + p) := q_rgn_p (by omega)
  refine h _ (((q_fb.rf.set r2).set q_rgn_b).set q_rgn_b) ⟨?_, fun j hj => ?_, fun j hj => ?_, fun p2 q => ?_, fun i2 q => ?_, fun k q => ?_, fun p2 q => ?_⟩
  · obtain ⟨a1, a2, a3, a4, a5⟩ := hB.1
    simp (disch := omega) only [q_s_ne, q_s_eq, q_un, q_uq]
    refine ⟨?_, ?_, ?_, ?_, ?_⟩ <;> first | trivial | assumption
  · by_cases j5 : j = 5
    · subst j5
      simp (disch := omega) only [q_s_ne, q_s_eq, q_un, q_uq]
    by_cases j3 : j = 3
    · subst j3
      simp (disch := omega) only [q_s_ne, q_s_eq, q_un, q_uq]
    have := hB.2.1 j hj
    simp (disch := omega) only [q_s_ne, q_s_eq, q_un, q_uq]
    exact this
  · have := hB.2.2.1 j hj
    simp (disch := omega) only [q_s_ne, q_s_eq, q_un, q_uq]
    exact this
  · by_cases hp2 : p2 = p
    · subst hp2
      obtain ⟨b0, b1, b2, b3, b4, b5, b6⟩ := hB.pl q
      unfold q_of at b0 b1 b2 b3 b4 b5 b6
      unfold q_P q_of
      simp (disch := omega) only [q_s_ne, q_s_eq, q_un, q_uq]
      refine ⟨?_, ?_, ?_, ?_, ?_, ?_, ?_⟩ <;> first | trivial | assumption | rfl
    have := hB.pl q
    unfold q_P q_of at this
    unfold q_P q_of
    simp (disch := omega) only [q_s_ne, q_s_eq, q_un, q_uq]
    exact this
  · have := hB.it q
    unfold q_I q_its at this
    unfold q_I q_its
    simp (disch := omega) only [q_s_ne, q_s_eq, q_un, q_uq]
    exact this
  · have := hB.2.2.2.2.2.1 k q
    simp (disch := omega) only [q_s_ne, q_s_eq, q_un, q_uq]
    exact this
  · have := hB.2.2.2.2.2.2 p2 q
    simp (disch := omega) only [q_s_ne, q_s_eq]
    exact this
theorem q_X0_endMarch {n : Nat} {y : Int32} (hnp : np ≤ 10) (hni : ni ≤ 10) (hnl : nl ≤ 10) (hB : q_B S b v np ni nl) (h : ∀ S2, q_fb b S S2 → q_B S2 b (upd (upd (upd (upd (upd v 4 1) 6 (v 6 + 1)) 7 (v 7 + nI n)) 9 (v 9 + y)) 8 (v 8 + y)) np ni nl → post none S2) : w_X0_endMarch [aR 1 b, aI (nI n), aI y] S post := by
  refine e_walk (stops := [2]) 20 ?_
  refine e_walk (stops := [5]) 20 ?_
  refine And.intro ⟨rfl, rfl⟩ ?_
  have f0 : q_fb b S (sI S 1 b 8 1) := q_fb.rf.set q_rgn_b
  have g0 : ∀ j, j < 8 → mI (sI S 1 b 8 1) 1 b (9 + j) = v (5 + j) := fun j hj => by rw [q_s_ne (by omega)]; exact hB.2.1 j hj
  refine e_walk (stops := []) 40 ?_
  show post none (sI (sI (sI (sI (sI S 1 b 8 1) 1 b 10 (mI (sI S 1 b 8 1) 1 b (9 + 1) + 1)) 1 b 11 (mI (sI (sI S 1 b 8 1) 1 b 10 (mI (sI S 1 b 8 1) 1 b (9 + 1) + 1)) 1 b (9 + 2) + nI n)) 1 b 13 (mI (sI (sI (sI S 1 b 8 1) 1 b 10 (mI (sI S 1 b 8 1) 1 b (9 + 1) + 1)) 1 b 11 (mI (sI (sI S 1 b 8 1) 1 b 10 (mI (sI S 1 b 8 1) 1 b (9 + 1) + 1)) 1 b (9 + 2) + nI n)) 1 b (9 + 4) + y)) 1 b 12 (mI (sI (sI (sI (sI S 1 b 8 1) 1 b 10 (mI (sI S 1 b 8 1) 1 b (9 + 1) + 1)) 1 b 11 (mI (sI (sI S 1 b 8 1) 1 b 10 (mI (sI S 1 b 8 1) 1 b (9 + 1) + 1)) 1 b (9 + 2) + nI n)) 1 b 13 (mI (sI (sI (sI S 1 b 8 1) 1 b 10 (mI (sI S 1 b 8 1) 1 b (9 + 1) + 1)) 1 b 11 (mI (sI (sI S 1 b 8 1) 1 b 10 (mI (sI S 1 b 8 1) 1 b (9 + 1) + 1)) 1 b (9 + 2) + nI n)) 1 b (9 + 4) + y)) 1 b (9 + 3) + y))
  rw [q_s_ne (show ¬ (1 = 1 ∧ b = b ∧ 9 + 3 = 13) by omega), q_s_ne (show ¬ (1 = 1 ∧ b = b ∧ 9 + 3 = 11) by omega), q_s_ne (show ¬ (1 = 1 ∧ b = b ∧ 9 + 3 = 10) by omega), q_s_ne (show ¬ (1 = 1 ∧ b = b ∧ 9 + 4 = 11) by omega), q_s_ne (show ¬ (1 = 1 ∧ b = b ∧ 9 + 4 = 10) by omega), q_s_ne (show ¬ (1 = 1 ∧ b = b ∧ 9 + 2 = 10) by omega), g0 1 (by decide), g0 2 (by decide), g0 3 (by decide), g0 4 (by decide)]
  refine h _ ((((f0.set q_rgn_b).set q_rgn_b).set q_rgn_b).set q_rgn_b) ⟨?_, fun j hj => ?_, fun j hj => ?_, fun p2 q => ?_, fun i2 q => ?_, fun k q => ?_, fun p2 q => ?_⟩
  · obtain ⟨a1, a2, a3, a4, a5⟩ := hB.1
    simp (disch := omega) only [q_s_ne, q_s_eq, q_un, q_uq]
    refine ⟨?_, ?_, ?_, ?_, ?_⟩ <;> first | trivial | assumption
  · by_cases j1 : j = 1
    · subst j1
      simp (disch := omega) only [q_s_ne, q_s_eq, q_un, q_uq]
    by_cases j2 : j = 2
    · subst j2
      simp (disch := omega) only [q_s_ne, q_s_eq, q_un, q_uq]
    by_cases j3 : j = 3
    · subst j3
      simp (disch := omega) only [q_s_ne, q_s_eq, q_un, q_uq]
    by_cases j4 : j = 4
    · subst j4
      simp (disch := omega) only [q_s_ne, q_s_eq, q_un, q_uq]
    have := hB.2.1 j hj
    simp (disch := omega) only [q_s_ne, q_s_eq, q_un, q_uq]
    exact this
  · have := hB.2.2.1 j hj
    simp (disch := omega) only [q_s_ne, q_s_eq, q_un, q_uq]
    exact this
  · have := hB.pl q
    unfold q_P q_of at this
    unfold q_P q_of
    simp (disch := omega) only [q_s_ne, q_s_eq, q_un, q_uq]
    exact this
  · have := hB.it q
    unfold q_I q_its at this
    unfold q_I q_its
    simp (disch := omega) only [q_s_ne, q_s_eq, q_un, q_uq]
    exact this
  · have := hB.2.2.2.2.2.1 k q
    simp (disch := omega) only [q_s_ne, q_s_eq, q_un, q_uq]
    exact this
  · have := hB.2.2.2.2.2.2 p2 q
    simp (disch := omega) only [q_s_ne, q_s_eq]
    exact this
theorem q_X0_tryTeach {x y : Int32} (hi : q_inv B v np ni nl) (hB : q_B S b v np ni nl) (hy : ∀ p t, p < np → t < 3 → x = nI p → y = nI t → q_whyLesson v p t = 0 → ∀ S2, q_fb b S S2 → q_B S2 b (q_teach v p t) np ni nl → post (some (aI 1)) S2) (hn : q_teachE v np x y ≠ 0 → post (some (aI 0)) S) : w_X0_tryTeach [aR 1 b, aI x, aI y] S post := by
  have hnp := hi.1.1
  have hni := hi.1.2.1
  have hnl := hi.1.2.2.1
  refine e_walk (stops := [5]) 20 ?_
  refine q_X0_pupilAt hB.1.1 hnp (fun p pp e => ?_) (fun z => ?_)
  · subst e
    refine e_walk (stops := [14]) 20 ?_
    refine q_X4_isTeacher ?_
    cases hz : q_ix y 3 with
    | false =>
      refine e_walk (stops := []) 20 ?_
      exact And.intro (fun _ => hn (by unfold q_teachE; rw [hz, Bool.and_false]; exact (by decide : (1 : Nat) ≠ 0))) (fun c => absurd rfl c)
    | true =>
      obtain ⟨t, tt, rfl⟩ := q_ix_of (by decide) hz
      have hE : q_teachE v np (nI p) (nI t) = if 0 < q_whyLesson v p t then 2 else 0 := by
        unfold q_teachE
        rw [hz, q_ix_mk (by omega) pp, nI_clamp (by omega), nI_clamp (by omega)]; rfl
      refine e_walk (stops := [23]) 20 ?_
      refine And.intro (fun c => absurd c (by decide)) (fun _ => ?_)
      refine q_X0_whyNoLesson hi hB pp tt ?_
      have hle := q_whyLesson_le v p t
      by_cases c0 : q_whyLesson v p t = 0
      · rw [c0]
        obtain ⟨w1, w2, w3, w4⟩ := q_whyLesson_all c0
        obtain ⟨i0, k0, i01, i02, i03, i04, i05, i06⟩ := hi.plays pp w1
        obtain ⟨p0, p1, p2, p3, p4, p5, p6⟩ := hB.pl pp
        have hy := hy p t pp tt rfl rfl c0
        refine e_walk (stops := [35]) 20 ?_
        refine And.intro (fun _ => ?_) (fun c => absurd (by decide) c)
        refine q_X0_breathOfLesson hi hB pp (q_plays_pos w1) ?_
        refine e_walk (stops := [38]) 20 ?_
        refine q_X2_learn ?_
        rw [p1, p2]
        have r2 : q_rgn b 2 (10 * b + p) := q_rgn_p (by omega)
        have f1 : q_fb b S (sI (sI S 2 (10 * b + p) 2 (q_of v p 2 + 1)) 2 (10 * b + p) 1 (q_of v p 1 - (3 + q_its v (q_has v p - 1) 0))) := (q_fb.rf.set r2).set r2
        refine e_walk (stops := [43]) 20 ?_
        refine And.intro ⟨rfl, rfl⟩ ?_
        refine e_walk (stops := [62]) 20 ?_
        refine q_X0_feeOf tt ?_
        refine e_walk (stops := [75]) 20 ?_
        refine q_X0_feeOf tt ?_
        refine e_walk (stops := []) 20 ?_
        show post (some (aI 1)) (sI (sI (sI (sI (sI (sI S 2 (10 * b + p) 2 (q_of v p 2 + 1)) 2 (10 * b + p) 1 (q_of v p 1 - (3 + q_its v (q_has v p - 1) 0))) 2 (10 * b + p) 5 1) 1 b 9 (mI (sI (sI (sI S 2 (10 * b + p) 2 (q_of v p 2 + 1)) 2 (10 * b + p) 1 (q_of v p 1 - (3 + q_its v (q_has v p - 1) 0))) 2 (10 * b + p) 5 1) 1 b (9 + 0) + 1)) 1 b 15 (mI (sI (sI (sI (sI S 2 (10 * b + p) 2 (q_of v p 2 + 1)) 2 (10 * b + p) 1 (q_of v p 1 - (3 + q_its v (q_has v p - 1) 0))) 2 (10 * b + p) 5 1) 1 b 9 (mI (sI (sI (sI S 2 (10 * b + p) 2 (q_of v p 2 + 1)) 2 (10 * b + p) 1 (q_of v p 1 - (3 + q_its v (q_has v p - 1) 0))) 2 (10 * b + p) 5 1) 1 b (9 + 0) + 1)) 1 b (9 + 6) + nI (q_fee t))) 1 b 12 (mI (sI (sI (sI (sI (sI S 2 (10 * b + p) 2 (q_of v p 2 + 1)) 2 (10 * b + p) 1 (q_of v p 1 - (3 + q_its v (q_has v p - 1) 0))) 2 (10 * b + p) 5 1) 1 b 9 (mI (sI (sI (sI S 2 (10 * b + p) 2 (q_of v p 2 + 1)) 2 (10 * b + p) 1 (q_of v p 1 - (3 + q_its v (q_has v p - 1) 0))) 2 (10 * b + p) 5 1) 1 b (9 + 0) + 1)) 1 b 15 (mI (sI (sI (sI (sI S 2 (10 * b + p) 2 (q_of v p 2 + 1)) 2 (10 * b + p) 1 (q_of v p 1 - (3 + q_its v (q_has v p - 1) 0))) 2 (10 * b + p) 5 1) 1 b 9 (mI (sI (sI (sI S 2 (10 * b + p) 2 (q_of v p 2 + 1)) 2 (10 * b + p) 1 (q_of v p 1 - (3 + q_its v (q_has v p - 1) 0))) 2 (10 * b + p) 5 1) 1 b (9 + 0) + 1)) 1 b (9 + 6) + nI (q_fee t))) 1 b (9 + 3) - nI (q_fee t)))
        have n1 : ∀ (S : eM) (j j2 : Nat) (x : Int32), mI (sI S 2 (10 * b + p) j x) 1 b j2 = mI S 1 b j2 := fun S j j2 x => q_s_ne (by omega)
        rw [q_s_ne (show ¬ (1 = 1 ∧ b = b ∧ 9 + 3 = 15) by omega), q_s_ne (show ¬ (1 = 1 ∧ b = b ∧ 9 + 3 = 9) by omega), q_s_ne (show ¬ (1 = 1 ∧ b = b ∧ 9 + 6 = 9) by omega), n1, n1, n1, n1, n1, n1, n1, n1, n1, hB.2.1 0 (by decide), hB.2.1 3 (by decide), hB.2.1 6 (by decide)]
        have hs3 : q_of v p 1 - (3 + q_its v (q_has v p - 1) 0) = q_of v p 1 - 3 - q_its v (q_has v p - 1) 0 := q_subadd _ _ _
        rw [hs3]
        refine hy _ ((((((q_fb.rf.set r2).set r2).set r2).set q_rgn_b).set q_rgn_b).set q_rgn_b) ⟨?_, fun j hj => ?_, fun j hj => ?_, fun p2 q => ?_, fun i2 q => ?_, fun k q => ?_, fun p2 q => ?_⟩
        · obtain ⟨a1, a2, a3, a4, a5⟩ := hB.1
          unfold q_teach
          simp (disch := omega) only [q_s_ne, q_s_eq, q_un, q_uq]
          refine ⟨?_, ?_, ?_, ?_, ?_⟩ <;> first | trivial | assumption
        · by_cases j0 : j = 0
          · subst j0
            unfold q_teach
            simp (disch := omega) only [q_s_ne, q_s_eq, q_un, q_uq]
          by_cases j3 : j = 3
          · subst j3
            unfold q_teach
            simp (disch := omega) only [q_s_ne, q_s_eq, q_un, q_uq]
          by_cases j6 : j = 6
          · subst j6
            unfold q_teach
            simp (disch := omega) only [q_s_ne, q_s_eq, q_un, q_uq]
          have := hB.2.1 j hj
          unfold q_teach
          simp (disch := omega) only [q_s_ne, q_s_eq, q_un, q_uq]
          exact this
        · have := hB.2.2.1 j hj
          unfold q_teach
          simp (disch := omega) only [q_s_ne, q_s_eq, q_un, q_uq]
          exact this
        · by_cases hp2 : p2 = p
          · subst hp2
            obtain ⟨b0, b1, b2, b3, b4, b5, b6⟩ := hB.pl q
            unfold q_of at b0 b1 b2 b3 b4 b5 b6
            unfold q_P q_of q_teach
            simp (disch := omega) only [q_s_ne, q_s_eq, q_un, q_uq]
            refine ⟨?_, ?_, ?_, ?_, ?_, ?_, ?_⟩ <;> first | trivial | assumption | rfl
          have := hB.pl q
          unfold q_P q_of at this
          unfold q_P q_of q_teach
          simp (disch := omega) only [q_s_ne, q_s_eq, q_un, q_uq]
          exact this
        · have := hB.it q
          unfold q_I q_its at this
          unfold q_I q_its q_teach
          simp (disch := omega) only [q_s_ne, q_s_eq, q_un, q_uq]
          exact this
        · have := hB.2.2.2.2.2.1 k q
          unfold q_teach
          simp (disch := omega) only [q_s_ne, q_s_eq, q_un, q_uq]
          exact this
        · have := hB.2.2.2.2.2.2 p2 q
          by_cases hp2 : p2 = p
          · subst hp2
            simp (disch := omega) only [q_s_ne, q_s_eq]
            exact Or.inr trivial
          simp (disch := omega) only [q_s_ne, q_s_eq]
          exact this
      · rw [if_pos (by omega)] at hE
        refine e_walk (stops := []) 20 ?_
        exact And.intro (fun c => absurd ((nI_eq (b := 0) (by omega) (by decide)).mp c) c0) (fun _ => hn (by rw [hE]; decide))
  · refine e_walk (stops := []) 20 ?_
    exact hn (by unfold q_teachE; rw [z]; exact (by decide : (1 : Nat) ≠ 0))
end BandActs2
