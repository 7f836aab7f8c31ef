/-! What walks come to: changes of a band, 4. Own work. -/
section BandActs4
variable {S S1 S2 : eM} {post : eQ} {v v2 : qV} {B b np ni nl : Nat}
theorem q_minmax (x y : Int32) : (if x < y then x else y) = (if y < x then y else x) := by
  by_cases c1 : x < y
  · rw [if_pos c1, if_neg (fun z => Int32.lt_irrefl (Int32.lt_trans c1 z))]
  · rw [if_neg c1]
    by_cases c2 : y < x
    · rw [if_pos c2]
    · rw [if_neg c2]
      exact Int32.le_antisymm (Int32.not_lt.mp c1) (Int32.not_lt.mp c2)
theorem q_dn_mn (v : qV) (i : Nat) (x : Int32) : q_dn v i x = q_mn2 9 (q_its v i 1 + x) := by
  unfold q_dn q_mn2
  exact (q_minmax _ _).symm
theorem q_came (a c x y : Int32) (h : a - c = x) : y - c = x + y - a := by
  rw [← h, Int32.sub_eq_add_neg, Int32.sub_eq_add_neg, Int32.sub_eq_add_neg, Int32.add_comm (a + -c), Int32.add_assoc y, Int32.add_comm a, Int32.add_assoc (-c), ← Int32.sub_eq_add_neg a a, Int32.sub_self, Int32.add_zero]
/-- a band's instrument gets dents -/
theorem q_B_dents {i : Nat} {y : Int32} (hnp : np ≤ 10) (hni : ni ≤ 10) (hnl : nl ≤ 10) (hB : q_B S b v np ni nl) (ii : i < ni) (hl : q_its v i 2 ≠ 0 → 0 < q_its v i 2) : q_fb b S (sI S 3 (10 * b + i) 1 (q_mn2 9 (mI S 3 (10 * b + i) 1 + y))) ∧ q_B (sI S 3 (10 * b + i) 1 (q_mn2 9 (mI S 3 (10 * b + i) 1 + y))) b (q_dents v i y) np ni nl := by
  obtain ⟨i0, i1, i2, i3, i4⟩ := hB.it ii
  have r3 : q_rgn b 3 (10 * b + i) := q_rgn_i (by omega)
  rw [i1, ← q_dn_mn]
  have hx : q_its v i 2 ≠ 0 → q_dn v i y - mI S 3 (10 * b + i) 3 = if 0 < q_its v i 2 then q_its v i 4 + q_dn v i y - q_its v i 1 else 0 := fun z => by
    rw [if_pos (hl z)]
    exact q_came _ _ _ _ (by rw [← i1]; exact i4 z)
  unfold q_dents
  generalize hD : (if 0 < q_its v i 2 then q_its v i 4 + q_dn v i y - q_its v i 1 else 0) = D at *
  generalize q_dn v i y = D1 at *
  refine ⟨q_fb.rf.set r3, ?_⟩
  refine ⟨?_, fun j hj => ?_, fun j hj => ?_, fun p2 q => ?_, fun i2 q => ?_, fun k q => ?_, fun p2 q => ?_⟩
  · obtain ⟨a1, a2, a3, a4, a5⟩ := hB.1
    simp (disch := omega) only [q_s_ne, q_s_eq, q_un, q_uq]
    refine ⟨?_, ?_, ?_, ?_, ?_⟩ <;> first | trivial | assumption
  · have := hB.2.1 j hj
    simp (disch := omega) only [q_s_ne, q_s_eq, q_un, q_uq]
    exact this
  · have := hB.2.2.1 j hj
    simp (disch := omega) only [q_s_ne, q_s_eq, q_un, q_uq]
    exact this
  · have := hB.pl q
    unfold q_P q_of at this
    unfold q_P q_of
    simp (disch := omega) only [q_s_ne, q_s_eq, q_un, q_uq]
    exact this
  · by_cases hi2 : i2 = i
    · subst hi2
      obtain ⟨b0, b1, b2, b3, b4⟩ := hB.it q
      unfold q_its at b0 b1 b2 b3 b4
      unfold q_I q_its
      simp (disch := omega) only [q_s_ne, q_s_eq, q_un, q_uq]
      refine ⟨?_, ?_, ?_, ?_, fun z => ?_⟩ <;> first | trivial | assumption | exact hx z
    have := hB.it q
    unfold q_I q_its at this
    unfold q_I q_its
    simp (disch := omega) only [q_s_ne, q_s_eq, q_un, q_uq]
    exact this
  · have := hB.2.2.2.2.2.1 k q
    simp (disch := omega) only [q_s_ne, q_s_eq, q_un, q_uq]
    exact this
  · have := hB.2.2.2.2.2.2 p2 q
    simp (disch := omega) only [q_s_ne, q_s_eq]
    exact this
theorem q_B_set {k : Nat} {y : Int32} (hnp : np ≤ 10) (hni : ni ≤ 10) (hnl : nl ≤ 10) (hB : q_B S b v np ni nl) (hk : k < 3) : q_B (sI S 7 b k y) b (upd v (13 + k) y) np ni nl := by
  refine ⟨?_, fun j hj => ?_, fun j hj => ?_, fun p2 q => ?_, fun i2 q => ?_, fun k q => ?_, fun p2 q => ?_⟩
  · obtain ⟨a1, a2, a3, a4, a5⟩ := hB.1
    simp (disch := omega) only [q_s_ne, q_s_eq, q_un, q_uq]
    refine ⟨?_, ?_, ?_, ?_, ?_⟩ <;> first | trivial | assumption
  · have := hB.2.1 j hj
    simp (disch := omega) only [q_s_ne, q_s_eq, q_un, q_uq]
    exact this
  · by_cases hjk : j = k
    · subst hjk
      simp (disch := omega) only [q_s_ne, q_s_eq, q_un, q_uq]
    · have := hB.2.2.1 j hj
      simp (disch := omega) only [q_s_ne, q_s_eq, q_un, q_uq]
      exact this
  · have := hB.pl q
    unfold q_P q_of at this
    unfold q_P q_of
    simp (disch := omega) only [q_s_ne, q_s_eq, q_un, q_uq]
    exact this
  · have := hB.it q
    unfold q_I q_its at this
    unfold q_I q_its
    simp (disch := omega) only [q_s_ne, q_s_eq, q_un, q_uq]
    exact this
  · have := hB.2.2.2.2.2.1 k q
    simp (disch := omega) only [q_s_ne, q_s_eq, q_un, q_uq]
    exact this
  · have := hB.2.2.2.2.2.2 p2 q
    simp (disch := omega) only [q_s_ne, q_s_eq]
    exact this
theorem q_X0_passDay (hnp : np ≤ 10) (hni : ni ≤ 10) (hnl : nl ≤ 10) (hB : q_B S b v np ni nl) (h : ∀ S2, q_fb b S S2 → q_B S2 b (q_ps v 1 np) np ni nl → post none S2) : w_X0_passDay [aR 1 b] S post := by
  refine e_walk (stops := [7]) 20 ?_
  show e_Run tb_X0_passDay post e_no 7 [some (aR 1 b), none, none] [aI (mI S 1 b 7 + 1), aR 1 b] S 0 0
  rw [hB.1.2.2.2.1]
  refine e_walk (stops := [17]) 20 ?_
  refine And.intro ⟨rfl, rfl⟩ ?_
  have f0 : q_fb b S (sI (sI S 1 b 7 (v 3 + 1)) 1 b 8 0) := (q_fb.rf.set q_rgn_b).set q_rgn_b
  have B0 : q_B (sI (sI S 1 b 7 (v 3 + 1)) 1 b 8 0) b (q_ps v 1 0) np ni nl := by
    unfold q_ps
    refine ⟨?_, fun j hj => ?_, fun j hj => ?_, fun p2 q => ?_, fun i2 q => ?_, fun k q => ?_, fun p2 q => ?_⟩
    · obtain ⟨a1, a2, a3, a4, a5⟩ := hB.1
      simp (disch := omega) only [q_s_ne, q_s_eq, q_un, q_uq]
      refine ⟨?_, ?_, ?_, ?_, ?_⟩ <;> first | trivial | assumption
    · have := hB.2.1 j hj
      simp (disch := omega) only [q_s_ne, q_s_eq, q_un, q_uq]
      exact this
    · have := hB.2.2.1 j hj
      simp (disch := omega) only [q_s_ne, q_s_eq, q_un, q_uq]
      exact this
    · have := hB.pl q
      unfold q_P q_of at this
      unfold q_P q_of
      simp (disch := omega) only [q_s_ne, q_s_eq, q_un, q_uq]
      exact this
    · have := hB.it q
      unfold q_I q_its at this
      unfold q_I q_its
      simp (disch := omega) only [q_s_ne, q_s_eq, q_un, q_uq]
      exact this
    · have := hB.2.2.2.2.2.1 k q
      simp (disch := omega) only [q_s_ne, q_s_eq, q_un, q_uq]
      exact this
    · have := hB.2.2.2.2.2.2 p2 q
      simp (disch := omega) only [q_s_ne, q_s_eq]
      exact this
  have loop : ∀ d k, k + d = np → ∀ S1, q_fb b S S1 → q_B S1 b (q_ps v 1 k) np ni nl → ∀ l2, e_Run tb_X0_passDay post e_no 17 [some (aR 1 b), some (aI (nI k)), l2] [] S1 0 0 := by
    intro d
    induction d with
    | zero =>
      intro k hk S1 f1 B1 l2
      obtain rfl : k = np := by omega
      refine e_walk (stops := [22]) 20 ?_
      show e_Run tb_X0_passDay post e_no 22 [some (aR 1 b), some (aI (nI k)), l2] [aI (mI S1 1 b 1), aI (nI k)] S1 0 0
      rw [B1.1.1]
      refine e_walk (stops := []) 20 ?_
      exact And.intro (fun _ => h S1 f1 B1) (fun c => absurd (Int32.le_refl _) c)
    | succ d ih =>
      intro k hk S1 f1 hB l2
      have hat := q_ps_at v 1 k
      have u0 : q_ps v 1 k (16 + 7 * k + 0) = v (16 + 7 * k + 0) := hat _ (by omega)
      have u1 : q_ps v 1 k (16 + 7 * k + 1) = v (16 + 7 * k + 1) := hat _ (by omega)
      have ih := ih (k + 1) (by omega)
      unfold q_ps at ih
      generalize q_ps v 1 k = u at *
      refine e_walk (stops := [22]) 20 ?_
      show e_Run tb_X0_passDay post e_no 22 [some (aR 1 b), some (aI (nI k)), l2] [aI (mI S1 1 b 1), aI (nI k)] S1 0 0
      rw [hB.1.1]
      refine e_walk (stops := [30]) 20 ?_
      refine And.intro (fun c => absurd c (nI_ge (a := k) (b := np) (by omega) (by omega))) (fun _ => ?_)
      refine q_X0_pupilAt hB.1.1 hnp (fun p pp e => ?_) (fun z => absurd z (by rw [q_ix_mk (by omega) (show k < np by omega)]; decide))
      have : k = p := (nI_eq (by omega) (by omega)).mp e
      subst this
      obtain ⟨p0, p1, p2, p3, p4, p5, p6⟩ := hB.pl pp
      unfold q_of at p0 p1
      rw [u0] at p0
      rw [u1] at p1
      have hm : (if v (16 + 7 * k + 1) + 4 < v (16 + 7 * k + 0) then v (16 + 7 * k + 1) + 4 else v (16 + 7 * k + 0)) = (if q_of v k 0 < q_of v k 1 + 4 * 1 then q_of v k 0 else q_of v k 1 + 4 * 1) := q_minmax _ _
      refine e_walk (stops := [46]) 20 ?_
      show e_Run tb_X0_passDay post e_no 46 [some (aR 1 b), some (aI (nI k)), some (aR 2 (10 * b + k))] [aI (mI S1 2 (10 * b + k) 1 + 4), aI (mI S1 2 (10 * b + k) 0), aR 2 (10 * b + k)] S1 0 0
      rw [p0, p1]
      refine e_walk (stops := [49]) 20 ?_
      show e_Run tb_X0_passDay post e_no 49 [some (aR 1 b), some (aI (nI k)), some (aR 2 (10 * b + k))] [aI (if v (16 + 7 * k + 1) + 4 < v (16 + 7 * k + 0) then v (16 + 7 * k + 1) + 4 else v (16 + 7 * k + 0)), aR 2 (10 * b + k)] S1 0 0
      rw [hm]
      generalize (if q_of v k 0 < q_of v k 1 + 4 * 1 then q_of v k 0 else q_of v k 1 + 4 * 1) = x at *
      refine e_walk (stops := [57]) 20 ?_
      refine And.intro ⟨rfl, rfl⟩ ?_
      refine e_walk (stops := [17]) 20 ?_
      show e_Run tb_X0_passDay post e_no 17 [some (aR 1 b), some (aI (nI k + 1)), some (aR 2 (10 * b + k))] [] (sI (sI S1 2 (10 * b + k) 1 x) 2 (10 * b + k) 5 0) 0 0
      rw [nI_1]
      have r2 : q_rgn b 2 (10 * b + k) := q_rgn_p (by omega)
      generalize hkk : k + 1 = k1 at *
      refine ih _ ((f1.set r2).set r2) ⟨?_, fun j hj => ?_, fun j hj => ?_, fun p2 q => ?_, fun i2 q => ?_, fun k3 q => ?_, fun p2 q => ?_⟩ _
      · obtain ⟨a1, a2, a3, a4, a5⟩ := hB.1
        simp (disch := omega) only [q_s_ne, q_s_eq, q_un, q_uq]
        refine ⟨?_, ?_, ?_, ?_, ?_⟩ <;> first | trivial | assumption
      · have := hB.2.1 j hj
        simp (disch := omega) only [q_s_ne, q_s_eq, q_un, q_uq]
        exact this
      · have := hB.2.2.1 j hj
        simp (disch := omega) only [q_s_ne, q_s_eq, q_un, q_uq]
        exact this
      · by_cases hp2 : p2 = k
        · subst hp2
          obtain ⟨b0, b1, b2, b3, b4, b5, b6⟩ := hB.pl q
          unfold q_of at b0 b1 b2 b3 b4 b5 b6
          unfold q_P q_of
          simp (disch := omega) only [q_s_ne, q_s_eq, q_un, q_uq]
          refine ⟨?_, ?_, ?_, ?_, ?_, ?_, ?_⟩ <;> first | trivial | assumption | rfl
        have := hB.pl q
        unfold q_P q_of at this
        unfold q_P q_of
        simp (disch := omega) only [q_s_ne, q_s_eq, q_un, q_uq]
        exact this
      · have := hB.it q
        unfold q_I q_its at this
        unfold q_I q_its
        simp (disch := omega) only [q_s_ne, q_s_eq, q_un, q_uq]
        exact this
      · have := hB.2.2.2.2.2.1 k3 q
        simp (disch := omega) only [q_s_ne, q_s_eq, q_un, q_uq]
        exact this
      · have := hB.2.2.2.2.2.2 p2 q
        by_cases hp2 : p2 = k
        · subst hp2
          simp (disch := omega) only [q_s_ne, q_s_eq]
          exact Or.inl trivial
        simp (disch := omega) only [q_s_ne, q_s_eq]
        exact this
  exact loop np 0 (by omega) _ f0 B0 _
/-- a part is played -/
theorem q_X0_playPart {p i k d : Nat} {x : Int32} (hnp : np ≤ 10) (hni : ni ≤ 10) (hnl : nl ≤ 10) (hB : q_B S b v np ni nl) (pp : p < np) (ii : i < ni) (h4 : q_of v p 4 = nI (i + 1)) (hl : 0 < q_its v i 2) (h1 : q_its v i 1 = nI d) (hd : d ≤ 9) (hx : x = nI p) (h : ∀ S2, q_fb b S S2 → q_B S2 b (q_one v p i k) np ni nl → post none S2) : w_X0_playPart [aR 1 b, aI x, aI (nI (4 + 2 * k))] S post := by
  subst hx
  obtain ⟨p0, p1, p2, p3, p4, p5, p6⟩ := hB.pl pp
  have r2 : q_rgn b 2 (10 * b + p) := q_rgn_p (by omega)
  have r3 : q_rgn b 3 (10 * b + i) := q_rgn_i (by omega)
  refine e_walk (stops := [5]) 20 ?_
  refine q_X0_pupilAt hB.1.1 hnp (fun p' pp' e => ?_) (fun z => absurd z (by rw [q_ix_mk (by omega) pp]; decide))
  have : p = p' := (nI_eq (by omega) (by omega)).mp e
  subst this
  refine e_walk (stops := [31]) 20 ?_
  show e_Run tb_X0_playPart post e_no 31 [some (aR 1 b), some (aI (nI p)), some (aI (nI (4 + 2 * k))), some (aR 2 (10 * b + p)), none] [] (sI (sI S 2 (10 * b + p) 1 (mI S 2 (10 * b + p) 1 - nI (4 + 2 * k))) 2 (10 * b + p) 6 (mI (sI S 2 (10 * b + p) 1 (mI S 2 (10 * b + p) 1 - nI (4 + 2 * k))) 2 (10 * b + p) 6 + 1)) 0 0
  rw [q_s_ne (show ¬ (2 = 2 ∧ 10 * b + p = 10 * b + p ∧ 6 = 1) by omega), p1, p6]
  have e4 : mI (sI (sI S 2 (10 * b + p) 1 (q_of v p 1 - nI (4 + 2 * k))) 2 (10 * b + p) 6 (q_of v p 6 + 1)) 2 (10 * b + p) 4 = nI i := by
    rw [q_s_ne (by omega), q_s_ne (by omega), p4, h4, nI_pred]
  have e3 : mI (sI (sI S 2 (10 * b + p) 1 (q_of v p 1 - nI (4 + 2 * k))) 2 (10 * b + p) 6 (q_of v p 6 + 1)) 1 b 3 = nI ni := by
    rw [q_s_ne (by omega), q_s_ne (by omega)]; exact hB.1.2.1
  have f1 : q_fb b S (sI (sI S 2 (10 * b + p) 1 (q_of v p 1 - nI (4 + 2 * k))) 2 (10 * b + p) 6 (q_of v p 6 + 1)) := (q_fb.rf.set r2).set r2
  have B1 : q_B (sI (sI S 2 (10 * b + p) 1 (q_of v p 1 - nI (4 + 2 * k))) 2 (10 * b + p) 6 (q_of v p 6 + 1)) b (upd (upd v (16 + 7 * p + 1) (q_of v p 1 - nI (4 + 2 * k))) (16 + 7 * p + 6) (q_of v p 6 + 1)) np ni nl := by
    refine ⟨?_, fun j hj => ?_, fun j hj => ?_, fun p2 q => ?_, fun i2 q => ?_, fun k q => ?_, fun p2 q => ?_⟩
    · obtain ⟨a1, a2, a3, a4, a5⟩ := hB.1
      simp (disch := omega) only [q_s_ne, q_s_eq, q_un, q_uq]
      refine ⟨?_, ?_, ?_, ?_, ?_⟩ <;> first | trivial | assumption
    · have := hB.2.1 j hj
      simp (disch := omega) only [q_s_ne, q_s_eq, q_un, q_uq]
      exact this
    · have := hB.2.2.1 j hj
      simp (disch := omega) only [q_s_ne, q_s_eq, q_un, q_uq]
      exact this
    · by_cases hp2 : p2 = p
      · subst hp2
        obtain ⟨b0, b1, b2, b3, b4, b5, b6⟩ := hB.pl q
        unfold q_of at b0 b1 b2 b3 b4 b5 b6
        unfold q_P q_of
        simp (disch := omega) only [q_s_ne, q_s_eq, q_un, q_uq]
        refine ⟨?_, ?_, ?_, ?_, ?_, ?_, ?_⟩ <;> first | trivial | assumption | rfl
      have := hB.pl q
      unfold q_P q_of at this
      unfold q_P q_of
      simp (disch := omega) only [q_s_ne, q_s_eq, q_un, q_uq]
      exact this
    · have := hB.it q
      unfold q_I q_its at this
      unfold q_I q_its
      simp (disch := omega) only [q_s_ne, q_s_eq, q_un, q_uq]
      exact this
    · have := hB.2.2.2.2.2.1 k q
      simp (disch := omega) only [q_s_ne, q_s_eq, q_un, q_uq]
      exact this
    · have := hB.2.2.2.2.2.2 p2 q
      simp (disch := omega) only [q_s_ne, q_s_eq]
      exact this
  have w2 : q_its (upd (upd v (16 + 7 * p + 1) (q_of v p 1 - nI (4 + 2 * k))) (16 + 7 * p + 6) (q_of v p 6 + 1)) i 2 = q_its v i 2 := by rw [q_its, q_un (by omega), q_un (by omega)]
  have w1 : q_its (upd (upd v (16 + 7 * p + 1) (q_of v p 1 - nI (4 + 2 * k))) (16 + 7 * p + 6) (q_of v p 6 + 1)) i 1 = q_its v i 1 := by rw [q_its, q_un (by omega), q_un (by omega)]
  have w3 : q_its (upd (upd v (16 + 7 * p + 1) (q_of v p 1 - nI (4 + 2 * k))) (16 + 7 * p + 6) (q_of v p 6 + 1)) i 3 = q_its v i 3 := by rw [q_its, q_un (by omega), q_un (by omega)]
  refine e_walk (stops := [36]) 20 ?_
  generalize sI (sI S 2 (10 * b + p) 1 (q_of v p 1 - nI (4 + 2 * k))) 2 (10 * b + p) 6 (q_of v p 6 + 1) = S1 at *
  show e_Run tb_X0_playPart post e_no 36 [some (aR 1 b), some (aI (nI p)), some (aI (nI (4 + 2 * k))), some (aR 2 (10 * b + p)), none] [aI (mI S1 2 (10 * b + p) 4), aR 1 b] S1 0 0
  rw [e4]
  refine e_walk (stops := [39]) 20 ?_
  refine q_X0_instrumentAt e3 hni (fun i' ii' e => ?_) (fun z => absurd z (by rw [q_ix_mk (by omega) ii]; decide))
  have : i = i' := (nI_eq (by omega) (by omega)).mp e
  subst this
  unfold q_one at h
  rw [← w3] at h
  generalize upd (upd v (16 + 7 * p + 1) (q_of v p 1 - nI (4 + 2 * k))) (16 + 7 * p + 6) (q_of v p 6 + 1) = v1 at *
  obtain ⟨i0, i1, i2, i3, i4⟩ := B1.it ii
  have B2 : q_B (sI S1 3 (10 * b + i) 4 (q_its v1 i 3 + 1)) b (upd v1 (86 + 5 * i + 3) (q_its v1 i 3 + 1)) np ni nl := by
    have hB := B1
    refine ⟨?_, fun j hj => ?_, fun j hj => ?_, fun p2 q => ?_, fun i2 q => ?_, fun k q => ?_, fun p2 q => ?_⟩
    · obtain ⟨a1, a2, a3, a4, a5⟩ := hB.1
      simp (disch := omega) only [q_s_ne, q_s_eq, q_un, q_uq]
      refine ⟨?_, ?_, ?_, ?_, ?_⟩ <;> first | trivial | assumption
    · have := hB.2.1 j hj
      simp (disch := omega) only [q_s_ne, q_s_eq, q_un, q_uq]
      exact this
    · have := hB.2.2.1 j hj
      simp (disch := omega) only [q_s_ne, q_s_eq, q_un, q_uq]
      exact this
    · have := hB.pl q
      unfold q_P q_of at this
      unfold q_P q_of
      simp (disch := omega) only [q_s_ne, q_s_eq, q_un, q_uq]
      exact this
    · by_cases hi2 : i2 = i
      · subst hi2
        obtain ⟨b0, b1, b2, b3, b4⟩ := hB.it q
        unfold q_its at b0 b1 b2 b3 b4
        unfold q_I q_its
        simp (disch := omega) only [q_s_ne, q_s_eq, q_un, q_uq]
        refine ⟨?_, ?_, ?_, ?_, fun z => ?_⟩ <;> first | trivial | assumption | exact b4 z
      have := hB.it q
      unfold q_I q_its at this
      unfold q_I q_its
      simp (disch := omega) only [q_s_ne, q_s_eq, q_un, q_uq]
      exact this
    · have := hB.2.2.2.2.2.1 k q
      simp (disch := omega) only [q_s_ne, q_s_eq, q_un, q_uq]
      exact this
    · have := hB.2.2.2.2.2.2 p2 q
      simp (disch := omega) only [q_s_ne, q_s_eq]
      exact this
  have w2b : q_its (upd v1 (86 + 5 * i + 3) (q_its v1 i 3 + 1)) i 2 = q_its v1 i 2 := by rw [q_its, q_un (by omega)]
  have w1b : q_its (upd v1 (86 + 5 * i + 3) (q_its v1 i 3 + 1)) i 1 = q_its v1 i 1 := by rw [q_its, q_un (by omega)]
  have f2 : q_fb b S (sI S1 3 (10 * b + i) 4 (q_its v1 i 3 + 1)) := f1.set r3
  refine e_walk (stops := [51]) 20 ?_
  refine q_X1_playMarch (fun c => ?_) (fun c => ?_)
  · rw [i3] at c ⊢
    refine e_walk (stops := []) 20 ?_
    rw [if_pos c] at h
    have y := q_B_dents (y := 1) hnp hni hnl B2 ii (fun _ => by rw [w2b, w2]; exact hl)
    rw [q_s_ne (by omega)] at y
    exact h _ (f2.trans y.1) y.2
  · rw [i3] at c ⊢
    refine e_walk (stops := []) 20 ?_
    rw [if_neg c] at h
    refine h _ f2 ?_
    have hd0 : q_dn (upd v1 (86 + 5 * i + 3) (q_its v1 i 3 + 1)) i 0 = q_its v1 i 1 := by
      unfold q_dn
      rw [w1b, w1, h1, Int32.add_zero, if_neg]
      intro z
      exact absurd ((nI_ltI (a := 9) (by decide) (by omega)).mp z) (by omega)
    refine B2.row ⟨hnp, hni, hnl⟩ (fun j _ => ?_)
    unfold q_dents
    rw [hd0, w2b, w1b, w2, if_pos hl]
    by_cases j4 : j = 86 + 5 * i + 4
    · subst j4
      rw [q_ue, Int32.sub_eq_add_neg, Int32.add_assoc, ← Int32.sub_eq_add_neg, Int32.sub_self, Int32.add_zero]
    · rw [q_un j4]
      by_cases j1 : j = 86 + 5 * i + 1
      · subst j1
        rw [q_ue]
        exact w1b.symm
      · rw [q_un j1]
theorem q_X0_noPart {y : Int32} (hnp : np ≤ 10) (h1 : mI S 1 b 1 = nI np) (h : post none S) : w_X0_playPart [aR 1 b, aI (-1), aI y] S post := by
  refine e_walk (stops := [5]) 20 ?_
  refine q_X0_pupilAt h1 hnp (fun p pp e => absurd e.symm (q_nIne (by omega))) (fun _ => ?_)
  exact e_walk (stops := []) 20 h
end BandActs4
