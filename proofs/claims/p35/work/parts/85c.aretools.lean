/-! The law: instruments and loans hang together. Own work (wip/p35/laws). -/
section LawTools
variable {S S1 S2 : eM} {post : eQ} {v v2 : qV} {n np ni nl : Nat} {d : z_D}
theorem z_div10 : ∀ i, i < 10 → ∀ p, p < 10 → nI (10 * i + p) / 10 = nI i ∧ nI (10 * i + p) - nI (10 * i + p) / 10 * 10 = nI p := by decide +kernel
theorem z_loan {k : Nat} (hi : q_inv n v np ni nl) (hk : k < nl) : ∃ i p, i < ni ∧ p < np ∧ v (136 + k) = nI i ∧ q_its v i 2 = nI (p + 1) ∧ q_lTold v k = nI (10 * i + p) := by
  have hnp := hi.1.1
  have hni := hi.1.2.1
  have hnl := hi.1.2.2.1
  obtain ⟨i, i1, i2, i3⟩ := hi.2.2.2.1.1 k hk
  obtain ⟨a, b, l, ⟨e1, e2, e3⟩, f, g⟩ := hi.2.2.1 i i1
  have hl : 0 < l := Nat.pos_of_ne_zero (fun z => i3 (by rw [e3, z]; rfl))
  obtain ⟨p, rfl⟩ : ∃ p, l = p + 1 := ⟨l - 1, by omega⟩
  refine ⟨i, p, i1, by omega, i2, e3, ?_⟩
  unfold q_lTold
  rw [hi.1.2.2.2.2.2, if_pos (nI_lt hk (by omega)), i2, nI_clamp (by omega), e3, show (10 : Int32) * nI i = nI (10 * i) from nI_mul 10 i, nI_add, ← Nat.add_assoc, nI_pred]
theorem z_loan_end (hi : q_inv n v np ni nl) : q_lTold v nl = -1 := by
  have hnl := hi.1.2.2.1
  unfold q_lTold
  rw [hi.1.2.2.2.2.2, if_neg (nI_nlt (Nat.le_refl _) (by omega))]
theorem z_why1 {i p : Nat} (h : q_its v i 2 = nI 0) : q_whyLoan v i p ≠ 1 := by
  unfold q_whyLoan
  rw [h, if_neg (by decide)]
  split
  · decide
  · split
    · decide
    · split
      · decide
      · split <;> decide
/-- every pupil's reason, from 166 on -/
theorem L_tool_c {i N M : Nat} {x x2 x5 : Int32} {l1 : Option eV} (hi : q_inv n v np ni nl) (ii : i < ni) (hx : ∀ k, k < np → (q_whyLoan v i k = 1 ∧ ¬ x < 0) ∨ (q_whyLoan v i k ≠ 1 ∧ x < 0)) (goal : ∀ (S1 : eM) (l7 : Option eV) (bc bs : Nat), z_Y n S1 v d → N ≤ bc → M ≤ bs → e_Run tb_L_areTools post e_no 6 [some (aR 0 0), l1, some (aI x2), some (aI (nI (i + 1))), some (aI x), some (aI x5), some (aI 1), l7] [] S1 bc bs) : ∀ c k, k + c = np → ∀ (S1 : eM) (bc bs : Nat), z_Y n S1 v d → 2 * c + 1 + N ≤ bc → 12 * c + 6 + M ≤ bs → e_Run tb_L_areTools post e_no 166 [some (aR 0 0), l1, some (aI x2), some (aI (nI i)), some (aI x), some (aI x5), some (aI 1), some (aI (nI k))] [] S1 bc bs := by
  have hnp := hi.1.1
  have hni := hi.1.2.1
  intro c
  induction c with
  | zero =>
    intro k hk S1 bc bs hY hb hs
    obtain rfl : k = np := by omega
    refine e_walk (stops := [173]) 60 ?_
    refine And.intro (by omega) (And.intro (by omega) ?_)
    refine m_count (w := 0) (r := nI k) hY hi (by decide) hi.1.2.2.2.1 (fun S2 hY => ?_)
    refine e_walk (stops := [6]) 60 ?_
    refine And.intro (fun _ => ?_) (fun z => absurd (nI_le (Nat.le_refl _) (by omega)) z)
    refine And.intro (fun z => absurd z (by decide)) (fun _ => ?_)
    show e_Run tb_L_areTools post e_no 6 [some (aR 0 0), l1, some (aI x2), some (aI (nI i + 1)), some (aI x), some (aI x5), some (aI 1), some (aI (nI k))] [] S2 _ _
    rw [nI_1]
    exact goal S2 _ _ _ hY (by omega) (by omega)
  | succ c ih =>
    intro k hk S1 bc bs hY hb hs
    refine e_walk (stops := [173]) 60 ?_
    refine And.intro (by omega) (And.intro (by omega) ?_)
    refine m_count (w := 0) (r := nI np) hY hi (by decide) hi.1.2.2.2.1 (fun S2 hY => ?_)
    refine e_walk (stops := [188]) 60 ?_
    refine And.intro (fun z => absurd z (nI_ge (by omega) (by omega))) (fun _ => ?_)
    refine And.intro (fun z => absurd z (by decide)) (fun _ => ?_)
    refine And.intro (by omega) (And.intro (by omega) ?_)
    refine m_noLoan hY hi ii (p := k) (by omega) rfl (fun S3 hY => ?_)
    have hw5 := q_whyLoan_le v i k
    rcases hx k (by omega) with ⟨w1, w2⟩ | ⟨w1, w2⟩
    · rw [w1]
      refine e_walk (stops := [166]) 60 ?_
      refine And.intro (fun _ => ?_) (fun z => absurd (by decide) z)
      refine And.intro (fun z => absurd z (w2)) (fun _ => ?_)
      refine And.intro (fun _ => ?_) (fun z => absurd (rfl) z)
      show e_Run tb_L_areTools post e_no 166 [some (aR 0 0), l1, some (aI x2), some (aI (nI i)), some (aI x), some (aI x5), some (aI 1), some (aI (nI k + 1))] [] S3 _ _
      rw [nI_1]
      exact ih (k + 1) (by omega) S3 _ _ hY (by omega) (by omega)
    · refine e_walk (stops := [166]) 60 ?_
      refine And.intro (fun z => absurd z ((fun z => w1 ((nI_eq (b := 1) (by omega) (by decide)).mp z)))) (fun _ => ?_)
      refine And.intro (fun _ => ?_) (fun z => absurd (w2) z)
      refine And.intro (fun _ => ?_) (fun z => absurd (rfl) z)
      show e_Run tb_L_areTools post e_no 166 [some (aR 0 0), l1, some (aI x2), some (aI (nI i)), some (aI x), some (aI x5), some (aI 1), some (aI (nI k + 1))] [] S3 _ _
      rw [nI_1]
      exact ih (k + 1) (by omega) S3 _ _ hY (by omega) (by omega)
theorem z_m1 : ∀ a, a ≤ 9 → ¬ nI a < -1 := by decide
/-- dents since it is lent, and whether it can be played: from 96 on to 140 -/
theorem L_tool_b {i a N M : Nat} {y : Int32} {l1 l2 l4 l6 l7 : Option eV} (hi : q_inv n v np ni nl) (ii : i < ni) (ha : q_its v i 1 = nI a) (ha9 : a ≤ 9) (hy : ¬ nI a < y) (goal : ∀ (S1 : eM) (bc bs : Nat), z_Y n S1 v d → N ≤ bc → M ≤ bs → e_Run tb_L_areTools post e_no 140 [some (aR 0 0), l1, l2, some (aI (nI i)), l4, some (aI y), l6, l7] [] S1 bc bs) (hY : z_Y n S1 v d) (bc bs : Nat) (hb : 3 + N ≤ bc) (hs : 18 + M ≤ bs) : e_Run tb_L_areTools post e_no 96 [some (aR 0 0), l1, l2, some (aI (nI i)), l4, some (aI y), l6, l7] [] S1 bc bs := by
  refine e_walk (stops := [104]) 60 ?_
  refine And.intro (by omega) (And.intro (by omega) ?_)
  refine m_instrumentOf (w := 1) (r := nI a) hY hi ii (by decide) ha (fun S2 hY => ?_)
  by_cases c : a < 5
  · have c5 : q_its v i 1 < 5 := by rw [ha]; exact nI_lt (b := 5) c (by decide)
    refine e_walk (stops := [113]) 60 ?_
    refine And.intro (fun z => absurd z (hy)) (fun _ => ?_)
    refine And.intro (by omega) (And.intro (by omega) ?_)
    refine m_instrumentOf (w := 5) (r := 1) hY hi ii (by decide) (show cond (decide (q_its v i 1 < 5)) 1 0 = (1 : Int32) by rw [decide_eq_true c5]; rfl) (fun S3 hY => ?_)
    refine e_walk (stops := [128]) 60 ?_
    refine And.intro (fun _ => ?_) (fun z => absurd (rfl) z)
    refine And.intro (by omega) (And.intro (by omega) ?_)
    refine m_instrumentOf (w := 1) (r := nI a) hY hi ii (by decide) ha (fun S4 hY => ?_)
    refine e_walk (stops := [140]) 60 ?_
    refine And.intro (fun z => absurd z (nI_ge (b := 5) c (by decide))) (fun _ => ?_)
    refine And.intro (fun _ => ?_) (fun z => absurd (rfl) z)
    exact goal S4 _ _ hY (by omega) (by omega)
  · have c5 : ¬ q_its v i 1 < 5 := by rw [ha]; exact nI_nlt (b := 5) (by omega) (by omega)
    refine e_walk (stops := [113]) 60 ?_
    refine And.intro (fun z => absurd z (hy)) (fun _ => ?_)
    refine And.intro (by omega) (And.intro (by omega) ?_)
    refine m_instrumentOf (w := 5) (r := 0) hY hi ii (by decide) (show cond (decide (q_its v i 1 < 5)) 1 0 = (0 : Int32) by rw [decide_eq_false c5]; rfl) (fun S3 hY => ?_)
    refine e_walk (stops := [128]) 60 ?_
    refine And.intro (fun z => absurd z (by decide)) (fun _ => ?_)
    refine And.intro (by omega) (And.intro (by omega) ?_)
    refine m_instrumentOf (w := 1) (r := nI a) hY hi ii (by decide) ha (fun S4 hY => ?_)
    refine e_walk (stops := [140]) 60 ?_
    refine And.intro (fun _ => ?_) (fun z => absurd (nI_le (a := 5) (by omega) (by omega)) z)
    refine And.intro (fun _ => ?_) (fun z => absurd (rfl) z)
    exact goal S4 _ _ hY (by omega) (by omega)
set_option maxHeartbeats 8000000 in
/-- one instrument, from the loop's head -/
theorem L_tool {i N M : Nat} {l4 l5 l6 l7 : Option eV} (hi : q_inv n v np ni nl) (hb : z_b v ni) (ii : i < ni) (goal : ∀ (S1 : eM) (l4 l5 l6 l7 : Option eV) (bc bs : Nat), z_Y n S1 v d → N ≤ bc → M ≤ bs → e_Run tb_L_areTools post e_no 6 [some (aR 0 0), some (aI (nI (z_ct v (i + 1)))), some (aI (z_sm (fun i => q_its v i 3) (i + 1))), some (aI (nI (i + 1))), l4, l5, l6, l7] [] S1 bc bs) (hY : z_Y n S v d) (bc bs : Nat) (hbc : 31 + N ≤ bc) (hbs : 186 + M ≤ bs) : e_Run tb_L_areTools post e_no 6 [some (aR 0 0), some (aI (nI (z_ct v i))), some (aI (z_sm (fun i => q_its v i 3) i)), some (aI (nI i)), l4, l5, l6, l7] [] S bc bs := by
  have hnp := hi.1.1
  have hni := hi.1.2.1
  obtain ⟨kd, a, l, ⟨e0, e1, e2⟩, ⟨f1, f2, f3⟩, g⟩ := hi.2.2.1 i ii
  obtain ⟨a2, cc, l2, ⟨k1, k4, k2⟩, k5, k6, k7, k8⟩ := hb i ii
  obtain rfl : a2 = a := (nI_eq (by omega) (by omega)).mp (k1.symm.trans e1)
  obtain rfl : l2 = l := (nI_eq (by omega) (by omega)).mp (k2.symm.trans e2)
  rcases Nat.eq_zero_or_pos l2 with rfl | hl
  · have ect : z_ct v (i + 1) = z_ct v i + 0 := by
      show z_ct v i + (if q_its v i 2 = 0 then 0 else 1) = _
      rw [e2, if_pos (show nI 0 = 0 from rfl)]
    refine e_walk (stops := [12]) 60 ?_
    refine And.intro (by omega) (And.intro (by omega) ?_)
    refine m_count (w := 1) (r := nI ni) hY hi (by decide) hi.1.2.2.2.2.1 (fun S2 hY => ?_)
    refine e_walk (stops := [21]) 60 ?_
    refine And.intro (fun z => absurd z (nI_ge ii (by omega))) (fun _ => ?_)
    refine And.intro (by omega) (And.intro (by omega) ?_)
    refine m_instrumentOf (w := 2) (r := -1) hY hi ii (by decide) (show q_its v i 2 - 1 = -1 by rw [e2]; rfl) (fun S3 hY => ?_)
    refine e_walk (stops := [29]) 60 ?_
    refine And.intro (by omega) (And.intro (by omega) ?_)
    refine m_instrumentOf (w := 4) (r := -1) hY hi ii (by decide) (show (if q_its v i 2 = 0 then (-1 : Int32) else q_its v i 4) = -1 by rw [e2]; rfl) (fun S4 hY => ?_)
    refine e_walk (stops := [51]) 60 ?_
    refine And.intro (fun _ => ?_) (fun z => absurd (by decide) z)
    refine And.intro (by omega) (And.intro (by omega) ?_)
    refine m_instrumentOf (w := 3) (r := q_its v i 3) hY hi ii (by decide) rfl (fun S5 hY => ?_)
    refine e_walk (stops := [59]) 60 ?_
    refine And.intro (by omega) (And.intro (by omega) ?_)
    refine m_instrumentOf (w := 1) (r := nI a2) hY hi ii (by decide) e1 (fun S6 hY => ?_)
    refine e_walk (stops := [68]) 60 ?_
    refine And.intro (fun z => absurd z (nI_pos (by omega))) (fun _ => ?_)
    refine And.intro (by omega) (And.intro (by omega) ?_)
    refine m_instrumentOf (w := 1) (r := nI a2) hY hi ii (by decide) e1 (fun S7 hY => ?_)
    refine e_walk (stops := [96]) 60 ?_
    refine And.intro (fun z => absurd z (nI_nlt (a := 9) (b := a2) k6 (by decide))) (fun _ => ?_)
    refine And.intro (fun z => absurd z (by decide)) (fun _ => ?_)
    refine And.intro (fun z => absurd z (by decide)) (fun _ => ?_)
    refine And.intro (fun _ => ?_) (fun z => absurd (rfl) z)
    refine L_tool_b (N := 21 + N) (M := 126 + M) hi ii e1 k6 (z_m1 a2 k6) (fun S8 bc bs hY hb hs => ?_) hY _ _ (by omega) (by omega)
    refine e_walk (stops := [166]) 60 ?_
    refine And.intro (fun _ => ?_) (fun z => absurd (by decide) z)
    refine L_tool_c (N := N) (M := M) hi ii (fun k hk => Or.inr ⟨z_why1 e2, by decide⟩) (fun S9 l7 bc bs hY hb hs => ?_) np 0 (by omega) S8 _ _ hY (by omega) (by omega)
    have z := goal S9 (some (aI (-1))) (some (aI (-1))) (some (aI 1)) l7 bc bs hY hb hs
    rw [ect, ← nI_add] at z
    exact z
  · obtain ⟨p, rfl⟩ : ∃ p, l2 = p + 1 := ⟨l2 - 1, by omega⟩
    have hne : ¬ nI (p + 1) = 0 := nI_ne0 (by omega) (by omega)
    have ect : z_ct v (i + 1) = z_ct v i + 1 := by
      show z_ct v i + (if q_its v i 2 = 0 then 0 else 1) = _
      rw [e2, if_neg hne]
    have g := g (by omega)
    rw [show p + 1 - 1 = p from rfl] at g
    refine e_walk (stops := [12]) 60 ?_
    refine And.intro (by omega) (And.intro (by omega) ?_)
    refine m_count (w := 1) (r := nI ni) hY hi (by decide) hi.1.2.2.2.2.1 (fun S2 hY => ?_)
    refine e_walk (stops := [21]) 60 ?_
    refine And.intro (fun z => absurd z (nI_ge ii (by omega))) (fun _ => ?_)
    refine And.intro (by omega) (And.intro (by omega) ?_)
    refine m_instrumentOf (w := 2) (r := nI p) hY hi ii (by decide) (show q_its v i 2 - 1 = nI p by rw [e2]; exact nI_pred p) (fun S3 hY => ?_)
    refine e_walk (stops := [29]) 60 ?_
    refine And.intro (by omega) (And.intro (by omega) ?_)
    refine m_instrumentOf (w := 4) (r := nI cc) hY hi ii (by decide) (show (if q_its v i 2 = 0 then (-1 : Int32) else q_its v i 4) = nI cc by rw [e2, if_neg hne]; exact k4) (fun S4 hY => ?_)
    refine e_walk (stops := [51]) 60 ?_
    refine And.intro (fun z => absurd z (nI_pos (by omega))) (fun _ => ?_)
    refine And.intro (by omega) (And.intro (by omega) ?_)
    refine m_instrumentOf (w := 3) (r := q_its v i 3) hY hi ii (by decide) rfl (fun S5 hY => ?_)
    refine e_walk (stops := [59]) 60 ?_
    refine And.intro (by omega) (And.intro (by omega) ?_)
    refine m_instrumentOf (w := 1) (r := nI a2) hY hi ii (by decide) e1 (fun S6 hY => ?_)
    refine e_walk (stops := [68]) 60 ?_
    refine And.intro (fun z => absurd z (nI_pos (by omega))) (fun _ => ?_)
    refine And.intro (by omega) (And.intro (by omega) ?_)
    refine m_instrumentOf (w := 1) (r := nI a2) hY hi ii (by decide) e1 (fun S7 hY => ?_)
    refine e_walk (stops := [96]) 60 ?_
    refine And.intro (fun z => absurd z (nI_nlt (a := 9) (b := a2) k6 (by decide))) (fun _ => ?_)
    refine And.intro (fun _ => ?_) (fun z => absurd (nI_pos' (by omega)) z)
    refine And.intro (fun _ => ?_) (fun z => absurd (nI_pos' (by omega)) z)
    refine And.intro (fun _ => ?_) (fun z => absurd (rfl) z)
    refine L_tool_b (N := 22 + N) (M := 132 + M) hi ii e1 k6 (nI_nlt k5 (by omega)) (fun S8 bc bs hY hb hs => ?_) hY _ _ (by omega) (by omega)
    refine e_walk (stops := [152]) 60 ?_
    refine And.intro (fun z => absurd z (nI_pos (by omega))) (fun _ => ?_)
    refine And.intro (by omega) (And.intro (by omega) ?_)
    refine m_pupilOf (w := 4) (r := nI i) hY hi (p := p) (by omega) (by decide) (show q_of v p 4 - 1 = nI i by rw [g]; exact nI_pred i) (fun S9 hY => ?_)
    refine e_walk (stops := [166]) 60 ?_
    refine And.intro (fun _ => ?_) (fun z => absurd (rfl) z)
    have w1 : ∀ k, q_whyLoan v i k = 1 := fun k => by
      unfold q_whyLoan
      rw [e2, if_pos (show (0 : Int32) < nI (p + 1) from nI_lt (a := 0) (by omega) (by omega))]
    refine L_tool_c (N := N) (M := M) hi ii (fun k hk => Or.inl ⟨w1 k, nI_pos (by omega)⟩) (fun S10 l7 bc bs hY hb hs => ?_) np 0 (by omega) S9 _ _ hY (by omega) (by omega)
    have z := goal S10 (some (aI (nI p))) (some (aI (nI cc))) (some (aI 1)) l7 bc bs hY hb hs
    rw [ect, ← nI_add] at z
    exact z
/-- the loans before this one are others: from 292 on -/
theorem L_loan_by {k N M : Nat} {x : Int32} {l2 l6 l7 : Option eV} (hi : q_inv n v np ni nl) (hk : k < nl) (hx : q_lTold v k = x) (goal : ∀ (S1 : eM) (l5 : Option eV) (bc bs : Nat), z_Y n S1 v d → N ≤ bc → M ≤ bs → e_Run tb_L_areTools post e_no 322 [some (aR 0 0), some (aI (nI nl)), l2, some (aI (nI k)), some (aI x), l5, l6, l7] [] S1 bc bs) : ∀ c b, b + c = k → ∀ (S1 : eM) (bc bs : Nat), z_Y n S1 v d → c + N ≤ bc → 6 * c + M ≤ bs → e_Run tb_L_areTools post e_no 292 [some (aR 0 0), some (aI (nI nl)), l2, some (aI (nI k)), some (aI x), some (aI (nI b)), l6, l7] [] S1 bc bs := by
  have hnp := hi.1.1
  have hni := hi.1.2.1
  have hnl := hi.1.2.2.1
  intro c
  induction c with
  | zero =>
    intro b hb S1 bc bs hY hbc hbs
    obtain rfl : b = k := by omega
    refine e_walk (stops := [322]) 60 ?_
    refine And.intro (fun _ => ?_) (fun z => absurd (nI_le (Nat.le_refl _) (by omega)) z)
    exact goal S1 _ _ _ hY (by omega) (by omega)
  | succ c ih =>
    intro b hb S1 bc bs hY hbc hbs
    obtain ⟨i, p, i1, i2, i3, i4, i5⟩ := z_loan hi hk
    obtain ⟨i', p', j1, j2, j3, j4, j5⟩ := z_loan (k := b) hi (by omega)
    have hne : i' ≠ i := fun z => hi.2.2.2.1.2 b k (by omega) hk (by rw [i3, j3, z])
    have hxx : ¬ nI (10 * i' + p') = x := fun z => by
      rw [← hx, i5] at z
      have := (nI_eq (by omega) (by omega)).mp z
      omega
    refine e_walk (stops := [309]) 60 ?_
    refine And.intro (fun z => absurd z (nI_ge (by omega) (by omega))) (fun _ => ?_)
    refine And.intro (fun z => absurd z (nI_ge hk (by omega))) (fun _ => ?_)
    refine And.intro (by omega) (And.intro (by omega) ?_)
    refine m_loan (k := b) (r := nI (10 * i' + p')) hY hi (by omega) j5 (fun S2 hY => ?_)
    refine e_walk (stops := [292]) 60 ?_
    refine And.intro (fun z => absurd z (hxx)) (fun _ => ?_)
    show e_Run tb_L_areTools post e_no 292 [some (aR 0 0), some (aI (nI nl)), l2, some (aI (nI k)), some (aI x), some (aI (nI b + 1)), l6, l7] [] S2 _ _
    rw [nI_1]
    exact ih (b + 1) (by omega) S2 _ _ hY (by omega) (by omega)
set_option maxRecDepth 4000 in
set_option maxHeartbeats 8000000 in
theorem L_areTools (hY : z_Y n S v d) (hi : q_inv n v np ni nl) (hz : z_ok n v np ni nl) (h : ∀ S2, z_Y n S2 v d → post (some (aI 1)) S2) : w_L_areTools [aR 0 0] S post := by
  have hnp := hi.1.1
  have hni := hi.1.2.1
  have hnl := hi.1.2.2.1
  obtain ⟨ha, hb, hc, hd, he, hf, hg⟩ := hz
  have fin : ∀ (S1 : eM) (l3 l4 l5 l6 l7 : Option eV) (bc bs : Nat), z_Y n S1 v d → 3 ≤ bc → 18 ≤ bs → e_Run tb_L_areTools post e_no 328 [some (aR 0 0), some (aI (nI nl)), some (aI (z_sm (fun i => q_its v i 3) ni)), l3, l4, l5, l6, l7] [] S1 bc bs := by
    intro S1 l3 l4 l5 l6 l7 bc bs hY hbc hbs
    refine e_walk (stops := [333]) 60 ?_
    refine And.intro (by omega) (And.intro (by omega) ?_)
    refine m_count (w := 2) (r := nI nl) hY hi (by decide) hi.1.2.2.2.2.2 (fun S2 hY => ?_)
    refine e_walk (stops := [345]) 60 ?_
    refine And.intro (fun _ => ?_) (fun z => absurd (rfl) z)
    refine And.intro (by omega) (And.intro (by omega) ?_)
    refine m_count (w := 6) (r := v 6) hY hi (by decide) rfl (fun S3 hY => ?_)
    refine e_walk (stops := [352]) 60 ?_
    refine And.intro (by omega) (And.intro (by omega) ?_)
    refine m_count (w := 7) (r := v 7) hY hi (by decide) rfl (fun S4 hY => ?_)
    refine e_walk (stops := []) 60 ?_
    exact And.intro (fun _ => h S4 hY) (fun z => absurd hf z)
  have loans : ∀ c k, k + c = nl + 1 → ∀ (S1 : eM) (l4 l5 l6 l7 : Option eV) (bc bs : Nat), z_Y n S1 v d → 12 * c + 3 ≤ bc → 72 * c + 18 ≤ bs → e_Run tb_L_areTools post e_no 238 [some (aR 0 0), some (aI (nI nl)), some (aI (z_sm (fun i => q_its v i 3) ni)), some (aI (nI k)), l4, l5, l6, l7] [] S1 bc bs := by
    intro c
    induction c with
    | zero =>
      intro k hk S1 l4 l5 l6 l7 bc bs hY hbc hbs
      refine e_walk (stops := [328]) 60 ?_
      refine And.intro (fun _ => ?_) (fun z => absurd (nI_lt (by omega) (by omega)) z)
      exact fin S1 _ _ _ _ _ _ _ hY (by omega) (by omega)
    | succ c ih =>
      intro k hk S1 l4 l5 l6 l7 bc bs hY hbc hbs
      have nx : ∀ (S2 : eM) (l4 l5 : Option eV) (bc bs : Nat), z_Y n S2 v d → 12 * c + 3 ≤ bc → 72 * c + 18 ≤ bs → e_Run tb_L_areTools post e_no 322 [some (aR 0 0), some (aI (nI nl)), some (aI (z_sm (fun i => q_its v i 3) ni)), some (aI (nI k)), l4, l5, l6, l7] [] S2 bc bs := by
        intro S2 l4 l5 bc bs hY hbc hbs
        refine e_walk (stops := [238]) 60 ?_
        show e_Run tb_L_areTools post e_no 238 [some (aR 0 0), some (aI (nI nl)), some (aI (z_sm (fun i => q_its v i 3) ni)), some (aI (nI k + 1)), l4, l5, l6, l7] [] S2 bc bs
        rw [nI_1]
        exact ih (k + 1) (by omega) S2 _ _ _ _ _ _ hY hbc hbs
      by_cases ck : k = nl
      · subst ck
        refine e_walk (stops := [248]) 60 ?_
        refine And.intro (fun z => absurd z (nI_nlt (Nat.le_refl _) (by omega))) (fun _ => ?_)
        refine And.intro (by omega) (And.intro (by omega) ?_)
        refine m_loan (k := k) (r := -1) hY hi (by omega) (z_loan_end hi) (fun S2 hY => ?_)
        refine e_walk (stops := [292]) 60 ?_
        refine And.intro (fun _ => ?_) (fun z => absurd (rfl) z)
        refine And.intro (fun _ => ?_) (fun z => absurd (rfl) z)
        by_cases k0 : k = 0
        · refine e_walk (stops := [322]) 60 ?_
          refine And.intro (fun _ => ?_) (fun z => absurd (nI_le (a := k) (b := 0) (by omega) (by decide)) z)
          exact nx S2 _ _ _ _ hY (by omega) (by omega)
        · refine e_walk (stops := [322]) 60 ?_
          refine And.intro (fun z => absurd z (nI_ge (a := 0) (by omega) (by omega))) (fun _ => ?_)
          refine And.intro (fun _ => ?_) (fun z => absurd (nI_le (Nat.le_refl _) (by omega)) z)
          exact nx S2 _ _ _ _ hY (by omega) (by omega)
      · have hk2 : k < nl := by omega
        obtain ⟨i, p, i1, i2, i3, i4, i5⟩ := z_loan hi hk2
        obtain ⟨q1, q2⟩ := z_div10 i (by omega) p (by omega)
        refine e_walk (stops := [248]) 60 ?_
        refine And.intro (fun z => absurd z (nI_nlt (by omega) (by omega))) (fun _ => ?_)
        refine And.intro (by omega) (And.intro (by omega) ?_)
        refine m_loan (k := k) (r := nI (10 * i + p)) hY hi (by omega) i5 (fun S2 hY => ?_)
        refine e_walk (stops := [275]) 60 ?_
        refine And.intro (fun z => absurd z ((fun z => ck ((nI_eq (by omega) (by omega)).mp z)))) (fun _ => ?_)
        refine And.intro (fun z => absurd z (nI_pos (by omega))) (fun _ => ?_)
        refine And.intro (by decide) ?_
        show e_Run tb_L_areTools post e_no 275 [some (aR 0 0), some (aI (nI nl)), some (aI (z_sm (fun i => q_its v i 3) ni)), some (aI (nI k)), some (aI (nI (10 * i + p))), l5, l6, l7] [aI (nI (10 * i + p) / 10), aR 0 0] S2 _ _
        rw [q1]
        refine e_walk (stops := [279]) 60 ?_
        refine And.intro (by omega) (And.intro (by omega) ?_)
        refine m_instrumentOf (w := 2) (r := nI p) hY hi i1 (by decide) (show q_its v i 2 - 1 = nI p by rw [i4]; exact nI_pred p) (fun S3 hY => ?_)
        refine e_walk (stops := [292]) 60 ?_
        refine And.intro (by decide) ?_
        refine And.intro (fun _ => ?_) (fun z => absurd q2.symm z)
        exact L_loan_by (N := 12 * c + 3) (M := 72 * c + 18) hi hk2 i5 (fun S4 l5 bc bs hY hb hs => nx S4 _ _ _ _ hY hb hs) k 0 (by omega) S3 _ _ hY (by omega) (by omega)
  have tools : ∀ c i, i + c = ni → ∀ (S1 : eM) (l4 l5 l6 l7 : Option eV) (bc bs : Nat), z_Y n S1 v d → 31 * c + 136 ≤ bc → 186 * c + 816 ≤ bs → e_Run tb_L_areTools post e_no 6 [some (aR 0 0), some (aI (nI (z_ct v i))), some (aI (z_sm (fun i => q_its v i 3) i)), some (aI (nI i)), l4, l5, l6, l7] [] S1 bc bs := by
    intro c
    induction c with
    | zero =>
      intro i hi2 S1 l4 l5 l6 l7 bc bs hY hbc hbs
      obtain rfl : i = ni := by omega
      rw [hg]
      refine e_walk (stops := [12]) 60 ?_
      refine And.intro (by omega) (And.intro (by omega) ?_)
      refine m_count (w := 1) (r := nI i) hY hi (by decide) hi.1.2.2.2.2.1 (fun S2 hY => ?_)
      refine e_walk (stops := [238]) 60 ?_
      refine And.intro (fun _ => ?_) (fun z => absurd (nI_le (Nat.le_refl _) (by omega)) z)
      exact loans (nl + 1) 0 (by omega) S2 _ _ _ _ _ _ hY (by omega) (by omega)
    | succ c ih =>
      intro i hi2 S1 l4 l5 l6 l7 bc bs hY hbc hbs
      have nx := ih (i + 1) (by omega)
      exact L_tool (N := 31 * c + 136) (M := 186 * c + 816) (l4 := l4) (l5 := l5) (l6 := l6) (l7 := l7) hi hb (by omega) nx hY bc bs (by omega) (by omega)
  refine e_walk (stops := [6]) 60 ?_
  exact tools ni 0 (by omega) S none none none none _ _ hY (by omega) (by omega)
end LawTools
