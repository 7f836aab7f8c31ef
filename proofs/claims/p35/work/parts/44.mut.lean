/-! What walks come to: changes of a band. Own work. -/
section BandActs
variable {S S1 S2 : eM} {post : eQ} {v v2 : qV} {B b np ni nl : Nat}
/-- the cells of a band -/
def q_rgn (b k i : Nat) : Prop := (k = 1 ∧ i = b) ∨ (k = 2 ∧ i / 10 = b) ∨ (k = 3 ∧ i / 10 = b) ∨ (k = 6 ∧ i = b) ∨ (k = 7 ∧ i = b)
def q_fb (b : Nat) (S S2 : eM) : Prop := (∀ k i, ¬ q_rgn b k i → mI S2 k i = mI S k i) ∧ mR S2 = mR S ∧ mL S2 = mL S
theorem q_fb.rf : q_fb b S S := ⟨fun _ _ _ => rfl, rfl, rfl⟩
theorem q_fb.trans (h : q_fb b S S1) (k : q_fb b S1 S2) : q_fb b S S2 := ⟨fun a c hc => (k.1 a c hc).trans (h.1 a c hc), k.2.1.trans h.2.1, k.2.2.trans h.2.2⟩
theorem q_fb.set (h : q_fb b S S1) {k i j : Nat} {x : Int32} (hr : q_rgn b k i) : q_fb b S (sI S1 k i j x) :=
  ⟨fun a c hc => (e_u3_ne (fun z => hc (by cases z; exact hr))).trans (h.1 a c hc), h.2⟩
theorem q_rgn_b : q_rgn b 1 b := Or.inl ⟨rfl, rfl⟩
theorem q_rgn_p {p : Nat} (hp : p < 10) : q_rgn b 2 (10 * b + p) := Or.inr (Or.inl ⟨rfl, by omega⟩)
theorem q_rgn_i {p : Nat} (hp : p < 10) : q_rgn b 3 (10 * b + p) := Or.inr (Or.inr (Or.inl ⟨rfl, by omega⟩))
theorem q_rgn_l : q_rgn b 6 b := Or.inr (Or.inr (Or.inr (Or.inl ⟨rfl, rfl⟩)))
theorem q_rgn_s : q_rgn b 7 b := Or.inr (Or.inr (Or.inr (Or.inr ⟨rfl, rfl⟩)))
theorem q_fb.f1 {k i : Nat} (h : q_f1 k i S S2) (hr : q_rgn b k i) : q_fb b S S2 := ⟨fun a c hc => h.1 a c (fun z => hc (by rw [z.1, z.2]; exact hr)), h.2⟩
/-- another band is as it was -/
theorem q_B.off {b2 : Nat} (h : q_B S b v np ni nl) (hi : np ≤ 10 ∧ ni ≤ 10) (f : q_fb b2 S S2) (hb : b ≠ b2) : q_B S2 b v np ni nl := by
  obtain ⟨h1, h2, h3, h4, h5, h6, h7⟩ := h
  have e1 : mI S2 1 b = mI S 1 b := f.1 1 b (by unfold q_rgn; omega)
  have e6 : mI S2 6 b = mI S 6 b := f.1 6 b (by unfold q_rgn; omega)
  have e7 : mI S2 7 b = mI S 7 b := f.1 7 b (by unfold q_rgn; omega)
  have e2 : ∀ p, p < 10 → mI S2 2 (10 * b + p) = mI S 2 (10 * b + p) := fun p hp => f.1 2 _ (by unfold q_rgn; omega)
  have e3 : ∀ p, p < 10 → mI S2 3 (10 * b + p) = mI S 3 (10 * b + p) := fun p hp => f.1 3 _ (by unfold q_rgn; omega)
  refine ⟨by rw [e1]; exact h1, by rw [e1]; exact h2, by rw [e7]; exact h3, fun p hp => ?_, fun i hp => ?_, by rw [e6]; exact h6, fun p hp => by rw [e2 p hp]; exact h7 p hp⟩
  · unfold q_P
    rw [e2 p (by omega)]
    exact h4 p hp
  · unfold q_I
    rw [e3 i (by omega)]
    exact h5 i hp
/-- rows that are the same below 146 -/
theorem q_B.row (h : q_B S b v np ni nl) (hi : np ≤ 10 ∧ ni ≤ 10 ∧ nl ≤ 10) (e : ∀ j, j < 146 → v2 j = v j) : q_B S b v2 np ni nl := by
  obtain ⟨h1, h2, h3, h4, h5, h6, h7⟩ := h
  refine ⟨by rw [e 3 (by decide), e 4 (by decide)]; exact h1, fun j hj => by rw [e _ (by omega)]; exact h2 j hj, fun j hj => by rw [e _ (by omega)]; exact h3 j hj, fun p hp => ?_, fun i hp => ?_, fun k hk => by rw [e _ (by omega)]; exact h6 k hk, h7⟩
  · unfold q_P q_of
    rw [e _ (by omega), e _ (by omega), e _ (by omega), e _ (by omega), e _ (by omega), e _ (by omega), e _ (by omega)]
    exact h4 p hp
  · unfold q_I q_its
    rw [e _ (by omega), e _ (by omega), e _ (by omega), e _ (by omega), e _ (by omega)]
    exact h5 i hp
theorem q_X0_addPupil {a : Nat} (hi : q_inv B v np ni nl) (hB : q_B S b v np ni nl) (hn : np < 10) (h : ∀ S2, q_fb b S S2 → q_B S2 b (q_pupil v np (nI a)) (np + 1) ni nl → post (some (aI (nI np))) S2) : w_X0_addPupil [aR 1 b, aI (nI a)] S post := by
  have hni := hi.1.2.1
  have hnl := hi.1.2.2.1
  have hz := hi.2.2.2.2.1.1
  refine e_walk (stops := [10]) 20 ?_
  show e_Run tb_X0_addPupil post e_no 10 [some (aR 1 b), some (aI (nI a)), none] [] (sI S 1 b 1 (mI S 1 b 1 + 1)) 0 0
  rw [hB.1.1, nI_1]
  have e1 : mI (sI S 1 b 1 (nI (np + 1))) 1 b 1 = nI (np + 1) := q_s_self
  refine e_walk (stops := [17]) 20 ?_
  show e_Run tb_X0_addPupil post e_no 17 [some (aR 1 b), some (aI (nI a)), none] [aI (mI (sI S 1 b 1 (nI (np + 1))) 1 b 1 - 1), aR 1 b] (sI S 1 b 1 (nI (np + 1))) 0 0
  rw [e1, show nI (np + 1) - 1 = nI np from nI_pred np]
  refine e_walk (stops := [20]) 20 ?_
  refine q_X0_pupilAt e1 (by omega) (fun p pp e => ?_) (fun z => ?_)
  · have : np = p := (nI_eq (by omega) (by omega)).mp e
    subst this
    refine e_walk (stops := [30]) 20 ?_
    refine q_X2_come ?_
    refine e_walk (stops := [35]) 20 ?_
    show e_Run tb_X0_addPupil post e_no 35 [some (aR 1 b), some (aI (nI a)), some (aR 2 (10 * b + np))] [aI 1, aI (mI (sI (sI (sI (sI (sI (sI (sI (sI S 1 b 1 (nI (np + 1))) 2 (10 * b + np) 0 (nI a)) 2 (10 * b + np) 1 (nI a)) 2 (10 * b + np) 2 1) 2 (10 * b + np) 3 0) 2 (10 * b + np) 4 (-1)) 2 (10 * b + np) 5 0) 2 (10 * b + np) 6 0) 1 b 1)] _ 0 0
    rw [q_s_ne (by omega), q_s_ne (by omega), q_s_ne (by omega), q_s_ne (by omega), q_s_ne (by omega), q_s_ne (by omega), q_s_ne (by omega), e1]
    refine e_walk (stops := []) 20 ?_
    show post (some (aI (nI (np + 1) - 1))) _
    rw [show nI (np + 1) - 1 = nI np from nI_pred np]
    have r2 : q_rgn b 2 (10 * b + np) := q_rgn_p hn
    refine h _ ((((((((q_fb.rf.set q_rgn_b).set r2).set r2).set r2).set r2).set r2).set r2).set r2) ⟨?_, fun j hj => ?_, fun j hj => ?_, fun p2 q => ?_, fun i q => ?_, fun k q => ?_, fun p2 q => ?_⟩
    · obtain ⟨a1, a2, a3, a4, a5⟩ := hB.1
      unfold q_pupil
      simp (disch := omega) only [q_s_ne, q_s_eq, q_un, q_uq]
      exact ⟨trivial, a2, a3, a4, a5⟩
    · have := hB.2.1 j hj
      unfold q_pupil
      simp (disch := omega) only [q_s_ne, q_s_eq, q_un, q_uq]
      exact this
    · have := hB.2.2.1 j hj
      unfold q_pupil
      simp (disch := omega) only [q_s_ne, q_s_eq, q_un, q_uq]
      exact this
    · by_cases hp : p2 = np
      · subst hp
        unfold q_P q_of q_pupil
        simp (disch := omega) only [q_s_ne, q_s_eq, q_un, q_uq]
        rw [hz _ (by omega) (by omega), hz _ (by omega) (by omega), hz _ (by omega) (by omega), hz _ (by omega) (by omega)]
        exact ⟨trivial, trivial, trivial, rfl, rfl, rfl, rfl⟩
      · have := hB.pl (show p2 < np by omega)
        unfold q_P q_of at this
        unfold q_P q_of q_pupil
        simp (disch := omega) only [q_s_ne, q_s_eq, q_un, q_uq]
        exact this
    · have := hB.it q
      unfold q_I q_its at this
      unfold q_I q_its q_pupil
      simp (disch := omega) only [q_s_ne, q_s_eq, q_un, q_uq]
      exact this
    · have := hB.2.2.2.2.2.1 k q
      unfold q_pupil
      simp (disch := omega) only [q_s_ne, q_s_eq, q_un, q_uq]
      exact this
    · have := hB.2.2.2.2.2.2 p2 q
      by_cases hp : p2 = np
      · subst hp
        simp (disch := omega) only [q_s_ne, q_s_eq]
        exact Or.inl trivial
      · simp (disch := omega) only [q_s_ne, q_s_eq]
        exact this
  · rw [q_ix_mk (by omega) (show np < np + 1 by omega)] at z
    cases z
theorem q_X0_tryMend {x : Int32} (hi : q_inv B v np ni nl) (hB : q_B S b v np ni nl) (hy : ∀ i, i < ni → x = nI i → q_mendE v ni x = 0 → ∀ S2, q_fb b S S2 → q_B S2 b (q_mend v i) np ni nl → post (some (aI 1)) S2) (hn : q_mendE v ni x ≠ 0 → post (some (aI 0)) S) : w_X0_tryMend [aR 1 b, aI x] S post := by
  have hni := hi.1.2.1
  have hnp := hi.1.1
  have hnl := hi.1.2.2.1
  refine e_walk (stops := [5]) 20 ?_
  refine q_X0_instrumentAt hB.1.2.1 hni (fun i ii e => ?_) (fun z => ?_)
  · subst e
    obtain ⟨i0, i1, i2, i3, i4⟩ := hB.it ii
    obtain ⟨kk, dd, ll, ⟨e1, e2, e3⟩, g, -⟩ := hi.2.2.1 i ii
    have hE : q_mendE v ni (nI i) = if 0 < q_its v i 2 then 2 else 0 := by
      unfold q_mendE
      rw [q_ix_mk (by omega) ii, nI_clamp (by omega)]; rfl
    refine e_walk (stops := [14]) 20 ?_
    refine q_X1_isLent ?_
    rw [i2]
    by_cases c1 : q_its v i 2 = 0
    · rw [decide_eq_true (q_m1.mpr c1)]
      rw [if_neg (by rw [c1]; decide)] at hE
      refine e_walk (stops := [23]) 20 ?_
      refine And.intro (fun _ => ?_) (fun c => absurd rfl c)
      refine q_X1_priceOfRepair ?_
      rw [i1]
      refine e_walk (stops := []) 40 ?_
      have r1 : q_rgn b 3 (10 * b + i) := q_rgn_i (by omega)
      show post (some (aI 1)) (sI (sI (sI S 1 b 16 (mI S 1 b 16 + 15 * q_its v i 1)) 1 b 12 (mI (sI S 1 b 16 (mI S 1 b 16 + 15 * q_its v i 1)) 1 b 12 - 15 * q_its v i 1)) 3 (10 * b + i) 1 0)
      rw [q_s_ne (by omega), hB.2.1 7 (by decide), hB.2.1 3 (by decide)]
      refine hy i ii rfl hE _ (((q_fb.rf.set q_rgn_b).set q_rgn_b).set r1) ⟨?_, fun j hj => ?_, fun j hj => ?_, fun p2 q => ?_, fun i2 q => ?_, fun k q => ?_, fun p2 q => ?_⟩
      · obtain ⟨a1, a2, a3, a4, a5⟩ := hB.1
        unfold q_mend
        simp (disch := omega) only [q_s_ne, q_s_eq, q_un, q_uq]
        exact ⟨a1, a2, a3, a4, a5⟩
      · by_cases j7 : j = 7
        · subst j7
          unfold q_mend
          simp (disch := omega) only [q_s_ne, q_s_eq, q_un, q_uq]
        by_cases j3 : j = 3
        · subst j3
          unfold q_mend
          simp (disch := omega) only [q_s_ne, q_s_eq, q_un, q_uq]
        have := hB.2.1 j hj
        unfold q_mend
        simp (disch := omega) only [q_s_ne, q_s_eq, q_un, q_uq]
        exact this
      · have := hB.2.2.1 j hj
        unfold q_mend
        simp (disch := omega) only [q_s_ne, q_s_eq, q_un, q_uq]
        exact this
      · have := hB.pl q
        unfold q_P q_of at this
        unfold q_P q_of q_mend
        simp (disch := omega) only [q_s_ne, q_s_eq, q_un, q_uq]
        exact this
      · have := hB.it q
        unfold q_I q_its at this
        by_cases hp : i2 = i
        · subst hp
          unfold q_I q_its q_mend
          simp (disch := omega) only [q_s_ne, q_s_eq, q_un, q_uq]
          exact ⟨this.1, trivial, this.2.2.1, this.2.2.2.1, fun z => absurd c1 z⟩
        · unfold q_I q_its q_mend
          simp (disch := omega) only [q_s_ne, q_s_eq, q_un, q_uq]
          exact this
      · have := hB.2.2.2.2.2.1 k q
        unfold q_mend
        simp (disch := omega) only [q_s_ne, q_s_eq, q_un, q_uq]
        exact this
      · have := hB.2.2.2.2.2.2 p2 q
        simp (disch := omega) only [q_s_ne, q_s_eq]
        exact this
    · have n1 : 0 < q_its v i 2 := Decidable.byContradiction fun z => c1 (by rw [e3] at z ⊢; exact (q_nI0p (by omega)).mpr z)
      rw [decide_eq_false (fun y => c1 (q_m1.mp y))]
      rw [if_pos n1] at hE
      refine e_walk (stops := []) 40 ?_
      exact And.intro (fun c => absurd c (by decide)) (fun _ => hn (by rw [hE]; decide))
  · refine e_walk (stops := []) 40 ?_
    exact hn (by unfold q_mendE; rw [z]; exact (by decide : (1 : Nat) ≠ 0))
end BandActs
