/-! What walks come to: changes of a band, 3. Own work. -/
section BandActs3
variable {S S1 S2 : eM} {post : eQ} {v v2 : qV} {B b np ni nl : Nat}
theorem q_X0_tryLend {x y : Int32} (hi : q_inv B v np ni nl) (hB : q_B S b v np ni nl) (hy : ∀ i p, i < ni → p < np → x = nI i → y = nI p → q_whyLoan v i p = 0 → ∀ S2, q_fb b S S2 → q_B S2 b (q_lend v nl i p) np ni (nl + 1) → post (some (aI 1)) S2) (hn : q_lendE v np ni x y ≠ 0 → post (some (aI 0)) S) : w_X0_tryLend [aR 1 b, aI x, aI y] S post := by
  have hnp := hi.1.1
  have hni := hi.1.2.1
  refine e_walk (stops := [5]) 20 ?_
  have bad : q_ix x ni = false ∨ q_ix y np = false → post (some (aI 0)) S := fun z => hn (by
    unfold q_lendE
    rcases z with z | z <;> rw [z]
    · exact (by decide : (1 : Nat) ≠ 0)
    · rw [Bool.and_false]; exact (by decide : (1 : Nat) ≠ 0))
  refine q_X0_instrumentAt hB.1.2.1 hni (fun i ii e => ?_) (fun z => ?_)
  case refine_2 =>
    refine e_walk (stops := [11]) 20 ?_
    refine q_X0_pupilAt hB.1.1 hnp (fun p pp e => ?_) (fun z2 => ?_)
    · exact e_walk (stops := []) 20 (bad (Or.inl z))
    · exact e_walk (stops := []) 20 (bad (Or.inl z))
  subst e
  refine e_walk (stops := [11]) 20 ?_
  refine q_X0_pupilAt hB.1.1 hnp (fun p pp e => ?_) (fun z => ?_)
  case refine_2 => exact e_walk (stops := []) 20 (bad (Or.inr z))
  subst e
  have hE : q_lendE v np ni (nI i) (nI p) = if 0 < q_whyLoan v i p then 2 else 0 := by
    unfold q_lendE
    rw [q_ix_mk (by omega) ii, q_ix_mk (by omega) pp, nI_clamp (by omega), nI_clamp (by omega)]; rfl
  have hle := q_whyLoan_le v i p
  refine e_walk (stops := [29]) 20 ?_
  refine q_X0_whyNoLoan hi hB ii pp ?_
  by_cases c0 : q_whyLoan v i p = 0
  · rw [c0]
    have hnl := (q_inv_lend hi ii pp c0).1
    have hy := hy i p ii pp rfl rfl c0
    have hl5 := hB.1.2.2.1
    have r2 : q_rgn b 2 (10 * b + p) := q_rgn_p (by omega)
    have r3 : q_rgn b 3 (10 * b + i) := q_rgn_i (by omega)
    refine e_walk (stops := [53]) 20 ?_
    refine And.intro (fun _ => ?_) (fun c => absurd (by decide) c)
    show e_Run tb_X0_tryLend post e_no 53 [some (aR 1 b), some (aI (nI i)), some (aI (nI p)), some (aR 3 (10 * b + i)), some (aR 2 (10 * b + p))] [] (sI (sI (sI S 3 (10 * b + i) 2 (nI p)) 3 (10 * b + i) 3 (mI (sI S 3 (10 * b + i) 2 (nI p)) 3 (10 * b + i) 1)) 2 (10 * b + p) 4 (nI i)) 0 0
    rw [q_s_ne (show ¬ (3 = 3 ∧ 10 * b + i = 10 * b + i ∧ 1 = 2) by omega)]
    have f1 : q_fb b S (sI (sI (sI S 3 (10 * b + i) 2 (nI p)) 3 (10 * b + i) 3 (mI S 3 (10 * b + i) 1)) 2 (10 * b + p) 4 (nI i)) := ((q_fb.rf.set r3).set r3).set r2
    have e5 : mI (sI (sI (sI S 3 (10 * b + i) 2 (nI p)) 3 (10 * b + i) 3 (mI S 3 (10 * b + i) 1)) 2 (10 * b + p) 4 (nI i)) 1 b 5 = nI nl := by
      rw [q_s_ne (by omega), q_s_ne (by omega), q_s_ne (by omega)]; exact hl5
    generalize hS1 : sI (sI (sI S 3 (10 * b + i) 2 (nI p)) 3 (10 * b + i) 3 (mI S 3 (10 * b + i) 1)) 2 (10 * b + p) 4 (nI i) = S1 at *
    refine e_walk (stops := [57]) 20 ?_
    show e_Run tb_X0_tryLend post e_no 57 [some (aR 1 b), some (aI (nI i)), some (aI (nI p)), some (aR 3 (10 * b + i)), some (aR 2 (10 * b + p))] [aI (mI S1 1 b 5)] S1 0 0
    rw [e5]
    refine e_walk (stops := [64]) 20 ?_
    refine And.intro (fun c => absurd c (nI_pos (by omega))) (fun _ => ?_)
    show e_Run tb_X0_tryLend post e_no 64 [some (aR 1 b), some (aI (nI i)), some (aI (nI p)), some (aR 3 (10 * b + i)), some (aR 2 (10 * b + p))] [aI (mI S1 1 b 5)] S1 0 0
    rw [e5]
    refine e_walk (stops := [80]) 20 ?_
    refine And.intro (fun c => absurd (show nI 10 ≤ nI nl from c) (nI_ge hnl (by decide))) (fun _ => ?_)
    show e_Run tb_X0_tryLend post e_no 80 [some (aR 1 b), some (aI (nI i)), some (aI (nI p)), some (aR 3 (10 * b + i)), some (aR 2 (10 * b + p))] [aI (mI S1 1 b 5), aR 6 b] S1 0 0
    rw [e5]
    refine e_walk (stops := [82]) 20 ?_
    refine And.intro (q_in (n := nl) (L := 10) rfl hnl (by decide)) ?_
    show e_Run tb_X0_tryLend post e_no 82 [some (aR 1 b), some (aI (nI i)), some (aI (nI p)), some (aR 3 (10 * b + i)), some (aR 2 (10 * b + p))] [] (sI S1 6 b (nI nl).toNatClampNeg (nI i)) 0 0
    rw [nI_clamp (by omega)]
    refine e_walk (stops := []) 20 ?_
    show post (some (aI 1)) (sI (sI S1 6 b nl (nI i)) 1 b 5 (mI (sI S1 6 b nl (nI i)) 1 b 5 + 1))
    rw [q_s_ne (show ¬ (1 = 6 ∧ b = b ∧ 5 = nl) by omega), e5, nI_1]
    have hx := nI_pred i
    have hyp := nI_pred p
    have hss : mI S 3 (10 * b + i) 1 - mI S 3 (10 * b + i) 1 = 0 := Int32.sub_self _
    refine hy _ ((f1.set q_rgn_l).set q_rgn_b) ?_
    subst hS1
    refine ⟨?_, fun j hj => ?_, fun j hj => ?_, fun p2 q => ?_, fun i2 q => ?_, fun k q => ?_, fun p2 q => ?_⟩
    · obtain ⟨a1, a2, a3, a4, a5⟩ := hB.1
      unfold q_lend
      simp (disch := omega) only [q_s_ne, q_s_eq, q_un, q_uq]
      refine ⟨?_, ?_, ?_, ?_, ?_⟩ <;> first | trivial | assumption
    · have := hB.2.1 j hj
      unfold q_lend
      simp (disch := omega) only [q_s_ne, q_s_eq, q_un, q_uq]
      exact this
    · have := hB.2.2.1 j hj
      unfold q_lend
      simp (disch := omega) only [q_s_ne, q_s_eq, q_un, q_uq]
      exact this
    · by_cases hp2 : p2 = p
      · subst hp2
        obtain ⟨b0, b1, b2, b3, b4, b5, b6⟩ := hB.pl q
        unfold q_of at b0 b1 b2 b3 b4 b5 b6
        unfold q_P q_of q_lend
        simp (disch := omega) only [q_s_ne, q_s_eq, q_un, q_uq]
        refine ⟨?_, ?_, ?_, ?_, ?_, ?_, ?_⟩ <;> first | trivial | assumption | exact hx.symm
      have := hB.pl q
      unfold q_P q_of at this
      unfold q_P q_of q_lend
      simp (disch := omega) only [q_s_ne, q_s_eq, q_un, q_uq]
      exact this
    · by_cases hi2 : i2 = i
      · subst hi2
        obtain ⟨b0, b1, b2, b3, b4⟩ := hB.it q
        unfold q_its at b0 b1 b2 b3 b4
        unfold q_I q_its q_lend
        simp (disch := omega) only [q_s_ne, q_s_eq, q_un, q_uq]
        refine ⟨?_, ?_, ?_, ?_, fun z => ?_⟩ <;> first | trivial | assumption | exact hyp.symm | exact hss
      have := hB.it q
      unfold q_I q_its at this
      unfold q_I q_its q_lend
      simp (disch := omega) only [q_s_ne, q_s_eq, q_un, q_uq]
      exact this
    · by_cases hk2 : k = nl
      · subst hk2
        unfold q_lend
        simp (disch := omega) only [q_s_ne, q_s_eq, q_un, q_uq]
      have := hB.2.2.2.2.2.1 k (by omega)
      unfold q_lend
      simp (disch := omega) only [q_s_ne, q_s_eq, q_un, q_uq]
      exact this
    · have := hB.2.2.2.2.2.2 p2 q
      simp (disch := omega) only [q_s_ne, q_s_eq]
      exact this
  · rw [if_pos (by omega)] at hE
    refine e_walk (stops := []) 20 ?_
    exact And.intro (fun c => absurd ((nI_eq (b := 0) (by omega) (by decide)).mp c) c0) (fun _ => hn (by rw [hE]; decide))
theorem q_X0_dropLoan {i : Nat} {u : qV} (hii : i < 10) (hnl : nl ≤ 10) (h5 : mI S 1 b 5 = nI nl) (h6 : ∀ k, k < nl → mI S 6 b k = u (136 + k)) (h : ∀ S2, ((∀ k i j, ¬ (k = 6 ∧ i = b) → ¬ (k = 1 ∧ i = b ∧ j = 5) → mI S2 k i j = mI S k i j) ∧ mR S2 = mR S ∧ mL S2 = mL S) → mI S2 1 b 5 = nI (q_bk i u nl).2 → (∀ a, a < (q_bk i u nl).2 → mI S2 6 b a = (q_bk i u nl).1 (136 + a)) → post none S2) : w_X0_dropLoan [aR 1 b, aI (nI i)] S post := by
  have loop : ∀ d k, k + d = nl → ∀ S1, ((∀ k i j, ¬ (k = 6 ∧ i = b) → mI S1 k i j = mI S k i j) ∧ mR S1 = mR S ∧ mL S1 = mL S) → (∀ a, a < (q_bk i u k).2 → mI S1 6 b a = (q_bk i u k).1 (136 + a)) → (∀ a, k ≤ a → a < nl → mI S1 6 b a = u (136 + a)) → e_Run tb_X0_dropLoan post e_no 4 [some (aR 1 b), some (aI (nI i)), some (aI (nI (q_bk i u k).2)), some (aI (nI k))] [] S1 0 0 := by
    intro d
    induction d with
    | zero =>
      intro k hk S1 f g1 g2
      obtain rfl : k = nl := by omega
      have e5 : mI S1 1 b 5 = nI k := by rw [f.1 1 b 5 (by omega)]; exact h5
      refine e_walk (stops := [9]) 20 ?_
      show e_Run tb_X0_dropLoan post e_no 9 [some (aR 1 b), some (aI (nI i)), some (aI (nI (q_bk i u k).2)), some (aI (nI k))] [aI (mI S1 1 b 5), aI (nI k)] S1 0 0
      rw [e5]
      refine e_walk (stops := []) 20 ?_
      refine And.intro (fun _ => ?_) (fun c => absurd (Int32.le_refl _) c)
      refine h _ ⟨fun k2 i2 j2 n1 n2 => ?_, f.2⟩ q_s_self (fun a ha => ?_)
      · show mI (sI S1 1 b 5 (nI (q_bk i u k).2)) k2 i2 j2 = _
        rw [q_s_ne n2]
        exact f.1 k2 i2 j2 n1
      · show mI (sI S1 1 b 5 (nI (q_bk i u k).2)) 6 b a = _
        rw [q_s_ne (by omega)]
        exact g1 a ha
    | succ d ih =>
      intro k hk S1 f g1 g2
      have e5 : mI S1 1 b 5 = nI nl := by rw [f.1 1 b 5 (by omega)]; exact h5
      have hle := (q_bk_le i u k).1
      obtain ⟨g, ga, gb, gc⟩ := q_bk_at i u k
      have ek : mI S1 6 b (nI k).toNatClampNeg = u (136 + k) := by rw [nI_clamp (by omega)]; exact g2 k (Nat.le_refl _) (by omega)
      have hnx : q_bk i u (k + 1) = (upd (q_bk i u k).1 (136 + (q_bk i u k).2) (u (136 + k)), cond (decide (u (136 + k) = nI i)) (q_bk i u k).2 ((q_bk i u k).2 + 1)) := by
        rw [q_bk, gc k (Nat.le_refl _)]
      have ih := ih (k + 1) (by omega)
      rw [hnx] at ih
      generalize (q_bk i u k).2 = t at *
      generalize (q_bk i u k).1 = w at *
      refine e_walk (stops := [9]) 20 ?_
      show e_Run tb_X0_dropLoan post e_no 9 [some (aR 1 b), some (aI (nI i)), some (aI (nI t)), some (aI (nI k))] [aI (mI S1 1 b 5), aI (nI k)] S1 0 0
      rw [e5]
      refine e_walk (stops := [27]) 20 ?_
      refine And.intro (fun c => absurd c (nI_ge (a := k) (b := nl) (by omega) (by omega))) (fun _ => ?_)
      refine And.intro (fun c => absurd (show nI 10 ≤ nI k from c) (nI_ge (by omega) (by decide))) (fun _ => ?_)
      refine And.intro (q_in (n := k) (L := 10) rfl (by omega) (by decide)) ?_
      show e_Run tb_X0_dropLoan post e_no 27 [some (aR 1 b), some (aI (nI i)), some (aI (nI t)), some (aI (nI k))] [aI (mI S1 6 b (nI k).toNatClampNeg)] S1 0 0
      rw [ek]
      refine e_walk (stops := [31, 4]) 20 ?_
      refine And.intro (fun c => ?_) (fun c => ?_)
      · have c : u (136 + k) = nI i := c
        rw [decide_eq_true c] at ih
        show e_Run tb_X0_dropLoan post e_no 4 [some (aR 1 b), some (aI (nI i)), some (aI (nI t)), some (aI (nI k + 1))] [] S1 0 0
        rw [nI_1]
        refine ih S1 f (fun a ha => ?_) (fun a ha hb => g2 a (by omega) hb)
        have ha : a < t := ha
        show _ = upd w (136 + t) (u (136 + k)) (136 + a)
        rw [q_un (by omega)]
        exact g1 a ha
      · have c : ¬ u (136 + k) = nI i := c
        rw [decide_eq_false c] at ih
        refine e_walk (stops := [42]) 20 ?_
        refine And.intro (q_in (n := k) (L := 10) rfl (by omega) (by decide)) ?_
        show e_Run tb_X0_dropLoan post e_no 42 [some (aR 1 b), some (aI (nI i)), some (aI (nI t)), some (aI (nI k))] [aI (mI S1 6 b (nI k).toNatClampNeg), aI (nI t), aR 6 b] S1 0 0
        rw [ek]
        refine e_walk (stops := [4]) 20 ?_
        refine And.intro (q_in (n := t) (L := 10) rfl (by omega) (by decide)) ?_
        show e_Run tb_X0_dropLoan post e_no 4 [some (aR 1 b), some (aI (nI i)), some (aI (nI t + 1)), some (aI (nI k + 1))] [] (sI S1 6 b (nI t).toNatClampNeg (u (136 + k))) 0 0
        rw [nI_1, nI_1, nI_clamp (by omega)]
        refine ih _ ⟨fun k2 i2 j2 n1 => ?_, f.2⟩ (fun a ha => ?_) (fun a ha hb => ?_)
        · show mI (sI S1 6 b t (u (136 + k))) k2 i2 j2 = _
          rw [q_s_ne (by omega)]
          exact f.1 k2 i2 j2 n1
        · have ha : a < t + 1 := ha
          show mI (sI S1 6 b t (u (136 + k))) 6 b a = upd w (136 + t) (u (136 + k)) (136 + a)
          by_cases hat : a = t
          · subst hat
            rw [q_s_self, q_ue]
          · rw [q_s_ne (by omega), q_un (by omega)]
            exact g1 a (by omega)
        · show mI (sI S1 6 b t (u (136 + k))) 6 b a = _
          rw [q_s_ne (by omega)]
          exact g2 a (by omega) hb
  refine e_walk (stops := [4]) 20 ?_
  exact loop nl 0 (by omega) S ⟨fun _ _ _ _ => rfl, rfl, rfl⟩ (fun a ha => absurd ha (Nat.not_lt_zero a)) (fun a _ hb => h6 a hb)
theorem q_X0_tryBack {x : Int32} (hi : q_inv B v np ni nl) (hB : q_B S b v np ni nl) (hy : ∀ i p, i < ni → p < np → x = nI i → q_its v i 2 = nI (p + 1) → q_backE v ni x = 0 → ∀ S2, q_fb b S S2 → q_B S2 b (q_back v nl i p) np ni (q_bk i (q_back0 v i p) nl).2 → post (some (aI 1)) S2) (hn : q_backE v ni x ≠ 0 → post (some (aI 0)) S) : w_X0_tryBack [aR 1 b, aI x] S post := by
  have hnp := hi.1.1
  have hni := hi.1.2.1
  have hnl := hi.1.2.2.1
  refine e_walk (stops := [5]) 20 ?_
  refine q_X0_instrumentAt hB.1.2.1 hni (fun i ii e => ?_) (fun z => ?_)
  case refine_2 => exact e_walk (stops := []) 20 (hn (by unfold q_backE; rw [z]; exact (by decide : (1 : Nat) ≠ 0)))
  subst e
  have hE : q_backE v ni (nI i) = if q_its v i 2 = 0 then 2 else 0 := by
    unfold q_backE
    rw [q_ix_mk (by omega) ii, nI_clamp (by omega)]; rfl
  obtain ⟨i0, i1, i2, i3, i4⟩ := hB.it ii
  refine e_walk (stops := [14]) 20 ?_
  refine q_X1_isLent ?_
  rw [i2]
  by_cases c1 : q_its v i 2 = 0
  · rw [decide_eq_true (q_m1.mpr c1)]
    rw [if_pos c1] at hE
    refine e_walk (stops := []) 20 ?_
    exact And.intro (fun _ => hn (by rw [hE]; decide)) (fun c => absurd rfl c)
  · rw [decide_eq_false (fun y => c1 (q_m1.mp y))]
    rw [if_neg c1] at hE
    obtain ⟨i', p, ii', pp, ee, ww⟩ := q_backE_ok hi hE
    have : i = i' := (nI_eq (by omega) (by omega)).mp ee
    subst this
    have hy := hy i p ii pp rfl ww hE
    obtain ⟨p0, p1, p2, p3, p4, p5, p6⟩ := hB.pl pp
    have r2 : q_rgn b 2 (10 * b + p) := q_rgn_p (by omega)
    have r3 : q_rgn b 3 (10 * b + i) := q_rgn_i (by omega)
    refine e_walk (stops := [24]) 20 ?_
    refine And.intro (fun c => absurd c (by decide)) (fun _ => ?_)
    show e_Run tb_X0_tryBack post e_no 24 [some (aR 1 b), some (aI (nI i)), some (aR 3 (10 * b + i)), none] [aI (mI S 3 (10 * b + i) 2), aR 1 b] S 0 0
    rw [i2, ww, nI_pred]
    refine e_walk (stops := [27]) 20 ?_
    refine q_X0_pupilAt hB.1.1 hnp (fun p' pp' e => ?_) (fun z => absurd z (by rw [q_ix_mk (by omega) pp]; decide))
    have : p = p' := (nI_eq (by omega) (by omega)).mp e
    subst this
    refine e_walk (stops := [37]) 20 ?_
    show e_Run tb_X0_tryBack post e_no 37 [some (aR 1 b), some (aI (nI i)), some (aR 3 (10 * b + i)), some (aR 2 (10 * b + p))] [aI (mI S 2 (10 * b + p) 3), aR 2 (10 * b + p)] S 0 0
    rw [p3]
    refine e_walk (stops := [42]) 20 ?_
    refine q_X0_billFor hB ii c1 ?_
    refine e_walk (stops := [61]) 40 ?_
    show w_X0_dropLoan [aR 1 b, aI (nI i)] (sI (sI (sI S 2 (10 * b + p) 3 (q_of v p 3 + v 13 * q_its v i 4)) 2 (10 * b + p) 4 (-1)) 3 (10 * b + i) 2 (-1)) _
    have hu : ∀ k, k < nl → q_back0 v i p (136 + k) = v (136 + k) := fun k _ => by
      unfold q_back0
      rw [q_un (by omega), q_un (by omega), q_un (by omega), q_un (by omega)]
    refine q_X0_dropLoan (u := q_back0 v i p) (by omega) hnl ?_ (fun k hk => ?_) (fun S2 f2 e5 e6 => ?_)
    · rw [q_s_ne (by omega), q_s_ne (by omega), q_s_ne (by omega)]; exact hB.1.2.2.1
    · rw [q_s_ne (by omega), q_s_ne (by omega), q_s_ne (by omega), hu k hk]; exact hB.2.2.2.2.2.1 k hk
    · refine e_walk (stops := []) 20 ?_
      have eb : ∀ j, j < 136 → j ≠ 2 → q_back v nl i p j = q_back0 v i p j := fun j n1 n2 => by
        unfold q_back
        rw [q_un n2]
        exact (q_bk_le i (q_back0 v i p) nl).2 j n1
      have e2 : ∀ k i j, ¬ (k = 6 ∧ i = b) → ¬ (k = 1 ∧ i = b ∧ j = 5) → mI S2 k i j = _ := f2.1
      refine hy S2 ⟨fun k2 i2 hr => funext fun j2 => ?_, f2.2⟩ ⟨?_, fun j hj => ?_, fun j hj => ?_, fun p2 q => ?_, fun i2 q => ?_, fun k q => ?_, fun p2 q => ?_⟩
      · rw [e2 k2 i2 j2 (fun z => hr (by rw [z.1, z.2]; exact q_rgn_l)) (fun z => hr (by rw [z.1, z.2.1]; exact q_rgn_b))]
        rw [q_s_ne (fun z => hr (by rw [z.1, z.2.1]; exact r3)), q_s_ne (fun z => hr (by rw [z.1, z.2.1]; exact r2)), q_s_ne (fun z => hr (by rw [z.1, z.2.1]; exact r2))]
      · obtain ⟨a1, a2, a3, a4, a5⟩ := hB.1
        rw [e2 1 b 1 (by omega) (by omega), e2 1 b 3 (by omega) (by omega), e2 1 b 7 (by omega) (by omega), e2 1 b 8 (by omega) (by omega), e5, eb 3 (by omega) (by omega), eb 4 (by omega) (by omega)]
        unfold q_back0
        simp (disch := omega) only [q_s_ne, q_s_eq, q_un, q_uq]
        refine ⟨?_, ?_, ?_, ?_, ?_⟩ <;> first | trivial | assumption
      · have := hB.2.1 j hj
        rw [e2 1 b _ (by omega) (by omega), eb _ (by omega) (by omega)]
        unfold q_back0
        simp (disch := omega) only [q_s_ne, q_s_eq, q_un, q_uq]
        exact this
      · have := hB.2.2.1 j hj
        rw [e2 7 b _ (by omega) (by omega), eb _ (by omega) (by omega)]
        unfold q_back0
        simp (disch := omega) only [q_s_ne, q_s_eq, q_un, q_uq]
        exact this
      · obtain ⟨b0, b1, b2, b3, b4, b5, b6⟩ := hB.pl q
        unfold q_of at b0 b1 b2 b3 b4 b5 b6
        unfold q_P q_of
        rw [e2 2 _ 0 (by omega) (by omega), e2 2 _ 1 (by omega) (by omega), e2 2 _ 2 (by omega) (by omega), e2 2 _ 3 (by omega) (by omega), e2 2 _ 4 (by omega) (by omega), e2 2 _ 5 (by omega) (by omega), e2 2 _ 6 (by omega) (by omega)]
        rw [eb _ (by omega) (by omega), eb _ (by omega) (by omega), eb _ (by omega) (by omega), eb _ (by omega) (by omega), eb _ (by omega) (by omega), eb _ (by omega) (by omega), eb _ (by omega) (by omega)]
        by_cases hp2 : p2 = p
        · subst hp2
          unfold q_back0
          simp (disch := omega) only [q_s_ne, q_s_eq, q_un, q_uq]
          refine ⟨?_, ?_, ?_, ?_, ?_, ?_, ?_⟩ <;> first | trivial | assumption | rfl
        · unfold q_back0
          simp (disch := omega) only [q_s_ne, q_s_eq, q_un, q_uq]
          exact ⟨b0, b1, b2, b3, b4, b5, b6⟩
      · obtain ⟨b0, b1, b2, b3, b4⟩ := hB.it q
        unfold q_its at b0 b1 b2 b3 b4
        unfold q_I q_its
        rw [e2 3 _ 0 (by omega) (by omega), e2 3 _ 1 (by omega) (by omega), e2 3 _ 2 (by omega) (by omega), e2 3 _ 3 (by omega) (by omega), e2 3 _ 4 (by omega) (by omega)]
        rw [eb _ (by omega) (by omega), eb _ (by omega) (by omega), eb _ (by omega) (by omega), eb _ (by omega) (by omega), eb _ (by omega) (by omega)]
        by_cases hi2 : i2 = i
        · subst hi2
          unfold q_back0
          simp (disch := omega) only [q_s_ne, q_s_eq, q_un, q_uq]
          refine ⟨?_, ?_, ?_, ?_, fun z => ?_⟩ <;> first | trivial | assumption | rfl | exact absurd rfl z
        · unfold q_back0
          simp (disch := omega) only [q_s_ne, q_s_eq, q_un, q_uq]
          exact ⟨b0, b1, b2, b3, b4⟩
      · rw [e6 k q]
        unfold q_back
        rw [q_un (by omega)]
      · have := hB.2.2.2.2.2.2 p2 q
        rw [e2 2 _ 5 (by omega) (by omega)]
        simp (disch := omega) only [q_s_ne, q_s_eq]
        exact this
end BandActs3
