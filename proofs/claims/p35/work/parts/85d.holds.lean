/-! The law: what holds behind each act. Own work (wip/p35/laws). -/
section LawHolds
variable {S S1 S2 : eM} {post : eQ} {v v2 : qV} {n np ni nl : Nat} {d : z_D}
theorem z_why5 {p t : Nat} (h : q_of v p 5 = 1) : 0 < q_whyLesson v p t := by
  unfold q_whyLesson
  split
  · decide
  · decide
set_option maxHeartbeats 8000000 in
/-- one pupil, from the loop's head -/
theorem L_pup {p N M : Nat} {l4 l5 l6 l7 : Option eV} (hi : q_inv n v np ni nl) (ha : z_a n v np) (hn : n ≤ 1000) (pp : p < np) (goal : ∀ (S1 : eM) (l4 l5 : Option eV) (bc bs : Nat), z_Y n S1 v d → N ≤ bc → M ≤ bs → e_Run tb_L_holds post e_no 6 [some (aR 0 0), some (aI (q_deb v (p + 1))), some (aI (z_sm (fun p => q_of v p 6) (p + 1))), some (aI (nI (p + 1))), l4, l5, l6, l7] [] S1 bc bs) (hY : z_Y n S v d) (bc bs : Nat) (hbc : 13 + N ≤ bc) (hbs : 78 + M ≤ bs) : e_Run tb_L_holds post e_no 6 [some (aR 0 0), some (aI (q_deb v p)), some (aI (z_sm (fun p => q_of v p 6) p)), some (aI (nI p)), l4, l5, l6, l7] [] S bc bs := by
  have hnp := hi.1.1
  have hni := hi.1.2.1
  obtain ⟨a, b, c, h, ⟨e0, e1, e2, e4⟩, ⟨f1, f2, f3, f4, f5, f6⟩, g5, g4⟩ := hi.2.1 p pp
  obtain ⟨dd, d1, d2⟩ := ha p pp
  -- from 112 on
  have tail : ∀ (S1 : eM) (x4 : Int32) (l5 : Option eV) (bc bs : Nat), z_Y n S1 v d → 2 + N ≤ bc → 12 + M ≤ bs → e_Run tb_L_holds post e_no 112 [some (aR 0 0), some (aI (q_deb v p + q_of v p 3)), some (aI (z_sm (fun p => q_of v p 6) p + q_of v p 6)), some (aI (nI p)), some (aI x4), l5, l6, l7] [] S1 bc bs := by
    intro S1 x4 l5 bc bs hY hb hs
    have fin : ∀ (S2 : eM) (bc bs : Nat), z_Y n S2 v d → N ≤ bc → M ≤ bs → e_Run tb_L_holds post e_no 130 [some (aR 0 0), some (aI (q_deb v p + q_of v p 3)), some (aI (z_sm (fun p => q_of v p 6) p + q_of v p 6)), some (aI (nI p)), some (aI x4), l5, l6, l7] [] S2 bc bs := by
      intro S2 bc bs hY hb hs
      refine e_walk (stops := [6]) 60 ?_
      refine And.intro (fun z => absurd z (by decide)) (fun _ => ?_)
      show e_Run tb_L_holds post e_no 6 [some (aR 0 0), some (aI (q_deb v p + q_of v p 3)), some (aI (z_sm (fun p => q_of v p 6) p + q_of v p 6)), some (aI (nI p + 1)), some (aI x4), some (aI 1), l6, l7] [] S2 bc bs
      rw [nI_1]
      exact goal S2 _ _ _ _ hY hb hs
    rcases g5 with g5 | g5
    · refine e_walk (stops := [118]) 60 ?_
      refine And.intro (by omega) (And.intro (by omega) ?_)
      refine m_pupilOf (w := 5) (r := 0) hY hi pp (by decide) g5 (fun S2 hY => ?_)
      refine e_walk (stops := [130]) 60 ?_
      refine And.intro (fun _ => ?_) (fun z => absurd (rfl) z)
      exact fin S2 _ _ hY (by omega) (by omega)
    · have hw := z_why5 (t := 2) g5
      have hw4 := q_whyLesson_le v p 2
      refine e_walk (stops := [118]) 60 ?_
      refine And.intro (by omega) (And.intro (by omega) ?_)
      refine m_pupilOf (w := 5) (r := 1) hY hi pp (by decide) g5 (fun S2 hY => ?_)
      refine e_walk (stops := [127]) 60 ?_
      refine And.intro (fun z => absurd z (by decide)) (fun _ => ?_)
      refine And.intro (by omega) (And.intro (by omega) ?_)
      refine m_noLesson (t := 2) hY hi pp (by decide) rfl (fun S3 hY => ?_)
      refine e_walk (stops := [130]) 60 ?_
      refine And.intro (fun z => absurd z (nI_nle hw (by omega))) (fun _ => ?_)
      exact fin S3 _ _ hY (by omega) (by omega)
  have mid : ∀ (x : Int32) (S1 : eM) (l5 : Option eV) (bc bs : Nat), z_Y n S1 v d → 12 + N ≤ bc → 72 + M ≤ bs → (∀ (S2 : eM) (bc bs : Nat), z_Y n S2 v d → 3 + N ≤ bc → 18 + M ≤ bs → e_Run tb_L_holds post e_no 96 [some (aR 0 0), some (aI (q_deb v p + q_of v p 3)), some (aI (z_sm (fun p => q_of v p 6) p + q_of v p 6)), some (aI (nI p)), some (aI x), l5, l6, l7] [] S2 bc bs) → q_of v p 4 - 1 = x → e_Run tb_L_holds post e_no 12 [some (aR 0 0), some (aI (q_deb v p)), some (aI (z_sm (fun p => q_of v p 6) p)), some (aI (nI p)), l4, l5, l6, l7] [aI (nI np), aI (nI p)] S1 bc bs := by
    intro x S1 l5 bc bs hY hb hs nx ex
    refine e_walk (stops := [21]) 60 ?_
    refine And.intro (fun z => absurd z (nI_ge pp (by omega))) (fun _ => ?_)
    refine And.intro (by omega) (And.intro (by omega) ?_)
    refine m_pupilOf (w := 4) (r := x) hY hi pp (by decide) ex (fun S2 hY => ?_)
    refine e_walk (stops := [30]) 60 ?_
    refine And.intro (by omega) (And.intro (by omega) ?_)
    refine m_pupilOf (w := 3) (r := q_of v p 3) hY hi pp (by decide) rfl (fun S3 hY => ?_)
    refine e_walk (stops := [40]) 60 ?_
    refine And.intro (by omega) (And.intro (by omega) ?_)
    refine m_pupilOf (w := 6) (r := q_of v p 6) hY hi pp (by decide) rfl (fun S4 hY => ?_)
    refine e_walk (stops := [48]) 60 ?_
    refine And.intro (by omega) (And.intro (by omega) ?_)
    refine m_pupilOf (w := 1) (r := nI b) hY hi pp (by decide) e1 (fun S5 hY => ?_)
    refine e_walk (stops := [57]) 60 ?_
    refine And.intro (fun z => absurd z (nI_pos (by omega))) (fun _ => ?_)
    refine And.intro (by omega) (And.intro (by omega) ?_)
    refine m_pupilOf (w := 1) (r := nI b) hY hi pp (by decide) e1 (fun S6 hY => ?_)
    refine e_walk (stops := [63]) 60 ?_
    refine And.intro (by omega) (And.intro (by omega) ?_)
    refine m_pupilOf (w := 0) (r := nI a) hY hi pp (by decide) e0 (fun S7 hY => ?_)
    refine e_walk (stops := [72]) 60 ?_
    refine And.intro (fun z => absurd z (nI_nlt f3 (by omega))) (fun _ => ?_)
    refine And.intro (by omega) (And.intro (by omega) ?_)
    refine m_pupilOf (w := 2) (r := nI c) hY hi pp (by decide) e2 (fun S8 hY => ?_)
    refine e_walk (stops := [82]) 60 ?_
    refine And.intro (fun z => absurd z (nI_nlt (a := c) (b := 1) f4 (by omega))) (fun _ => ?_)
    refine And.intro (by omega) (And.intro (by omega) ?_)
    refine m_pupilOf (w := 2) (r := nI c) hY hi pp (by decide) e2 (fun S9 hY => ?_)
    refine e_walk (stops := [93]) 60 ?_
    refine And.intro (fun z => absurd z (nI_nlt (a := 20) (b := c) f5 (by decide))) (fun _ => ?_)
    refine And.intro (by omega) (And.intro (by omega) ?_)
    refine m_pupilOf (w := 3) (r := nI dd) hY hi pp (by decide) d1 (fun S10 hY => ?_)
    refine e_walk (stops := [96]) 60 ?_
    refine And.intro (fun z => absurd z (nI_pos (by omega))) (fun _ => ?_)
    exact nx S10 _ _ hY (by omega) (by omega)
  refine e_walk (stops := [12]) 60 ?_
  refine And.intro (by omega) (And.intro (by omega) ?_)
  refine m_count (w := 0) (r := nI np) hY hi (by decide) hi.1.2.2.2.1 (fun S2 hY => ?_)
  rcases Nat.eq_zero_or_pos h with rfl | hh
  · refine mid (-1) S2 l5 _ _ hY (by omega) (by omega) (fun S3 bc bs hY hb hs => ?_) (by rw [e4]; rfl)
    refine e_walk (stops := [112]) 60 ?_
    refine And.intro (fun _ => ?_) (fun z => absurd (by decide) z)
    exact tail S3 _ _ _ _ hY (by omega) (by omega)
  · obtain ⟨i, rfl⟩ : ∃ i, h = i + 1 := ⟨h - 1, by omega⟩
    have g4 := g4 (by omega)
    rw [show i + 1 - 1 = i from rfl] at g4
    refine mid (nI i) S2 l5 _ _ hY (by omega) (by omega) (fun S3 bc bs hY hb hs => ?_) (by rw [e4]; exact nI_pred i)
    refine e_walk (stops := [108]) 60 ?_
    refine And.intro (fun z => absurd z (nI_pos (by omega))) (fun _ => ?_)
    refine And.intro (by omega) (And.intro (by omega) ?_)
    refine m_instrumentOf (w := 2) (r := nI p) hY hi (i := i) (by omega) (by decide) (show q_its v i 2 - 1 = nI p by rw [g4]; exact nI_pred p) (fun S4 hY => ?_)
    refine e_walk (stops := [112]) 60 ?_
    refine And.intro (fun _ => ?_) (fun z => absurd (rfl) z)
    exact tail S4 _ _ _ _ hY (by omega) (by omega)
set_option maxHeartbeats 8000000 in
/-- a march's pence, from 161 on -/
theorem L_pen {m N M : Nat} {x3 : Int32} {l1 l2 l6 l7 : Option eV} (hi : q_inv n v np ni nl) (hm : m < 4) (goal : ∀ (S1 : eM) (l6 : Option eV) (bc bs : Nat), z_Y n S1 v d → N ≤ bc → M ≤ bs → e_Run tb_L_holds post e_no 161 [some (aR 0 0), l1, l2, some (aI x3), some (aI (z_mx v np (m + 1))), some (aI (nI (m + 1))), l6, l7] [] S1 bc bs) (hY : z_Y n S v d) (bc bs : Nat) (hbc : 432 + N ≤ bc) (hbs : 25632 + M ≤ bs) : e_Run tb_L_holds post e_no 161 [some (aR 0 0), l1, l2, some (aI x3), some (aI (z_mx v np m)), some (aI (nI m)), l6, l7] [] S bc bs := by
  have tail : ∀ (S1 : eM) (bc bs : Nat), z_Y n S1 v d → 429 + N ≤ bc → 25614 + M ≤ bs → e_Run tb_L_holds post e_no 199 [some (aR 0 0), l1, l2, some (aI x3), some (aI (z_mx v np m)), some (aI (nI m)), some (aI (q_pm v np m)), l7] [] S1 bc bs := by
    intro S1 bc bs hY hb hs
    have fin : ∀ S2, z_Y n S2 v d → e_Run tb_L_holds post e_no 215 [some (aR 0 0), l1, l2, some (aI x3), some (aI (z_mx v np (m + 1))), some (aI (nI m)), some (aI (q_pm v np m)), l7] [] S2 bc bs := by
      intro S2 hY
      refine e_walk (stops := [221]) 60 ?_
      refine And.intro (by omega) (And.intro (by omega) ?_)
      refine L_isMarch hY hi hm (fun S3 hY => ?_)
      refine e_walk (stops := [161]) 60 ?_
      refine And.intro (fun z => absurd z (by decide)) (fun _ => ?_)
      show e_Run tb_L_holds post e_no 161 [some (aR 0 0), l1, l2, some (aI x3), some (aI (z_mx v np (m + 1))), some (aI (nI m + 1)), some (aI (q_pm v np m)), l7] [] S3 _ _
      rw [nI_1]
      exact goal S3 _ _ _ hY (by omega) (by omega)
    have e : z_mx v np (m + 1) = if z_mx v np m < q_pm v np m then q_pm v np m else z_mx v np m := rfl
    by_cases c : z_mx v np m < q_pm v np m
    · rw [if_pos c] at e
      rw [e] at fin
      refine e_walk (stops := [215]) 60 ?_
      refine And.intro (fun z => absurd z (Int32.not_le.mpr c)) (fun _ => ?_)
      exact fin S1 hY
    · rw [if_neg c] at e
      rw [e] at fin
      refine e_walk (stops := [215]) 60 ?_
      refine And.intro (fun _ => ?_) (fun z => absurd (Int32.not_lt.mp c) z)
      exact fin S1 hY
  have hp : q_pm v np m = v 15 * (4 - nI (q_sh v m np 4)) * cond (decide (q_sh v m np 4 = 0)) 2 1 := rfl
  have hsh := q_sh_le v m np 4
  refine e_walk (stops := [173]) 60 ?_
  refine And.intro (fun z => absurd z (nI_ge (b := 4) hm (by decide))) (fun _ => ?_)
  refine And.intro (by omega) (And.intro (by omega) ?_)
  refine m_count (w := 17) (r := v 15) hY hi (by decide) rfl (fun S2 hY => ?_)
  refine e_walk (stops := [180]) 60 ?_
  refine And.intro (by omega) (And.intro (by omega) ?_)
  refine m_shortOf hY hi hm rfl (fun S3 hY => ?_)
  refine e_walk (stops := [188]) 60 ?_
  refine And.intro (by omega) (And.intro (by omega) ?_)
  refine m_shortOf hY hi hm rfl (fun S4 hY => ?_)
  by_cases c : q_sh v m np 4 = 0
  · rw [decide_eq_true c] at hp
    refine e_walk (stops := [199]) 60 ?_
    refine And.intro (fun _ => ?_) (fun z => absurd ((by rw [c]; rfl)) z)
    have z := tail S4 (bc - 1 - 1 - 1) (bs - 6 - 6 - 6) hY (by omega) (by omega)
    rw [hp] at z
    exact z
  · rw [decide_eq_false c] at hp
    refine e_walk (stops := [199]) 60 ?_
    refine And.intro (fun z => absurd z (nI_ne0 (by omega) (by omega))) (fun _ => ?_)
    have z := tail S4 (bc - 1 - 1 - 1) (bs - 6 - 6 - 6) hY (by omega) (by omega)
    rw [hp] at z
    exact z
theorem z_fund (h : z_d v) : v 8 + 1000000 = v 9 + v 10 - v 11 - v 12 + 1000000 ∧ v 8 + 1000000 = 1000000 + v 9 + v 10 - v 11 - v 12 := by
  unfold z_d at h
  refine ⟨by rw [h], ?_⟩
  rw [h]
  simp only [Int32.sub_eq_add_neg]
  rw [Int32.add_comm, ← Int32.add_assoc, ← Int32.add_assoc, ← Int32.add_assoc]
set_option maxRecDepth 8000 in
set_option maxHeartbeats 8000000 in
/-- the last checks, from 303 on -/
theorem L_hold2 {x y : Int32} {mm ss : Nat} {l3 l7 : Option eV} (hi : q_inv n v np ni nl) (hz : z_ok n v np ni nl) (hxy : x = y) (h6 : v 6 = nI mm) (h7 : v 7 = nI ss) (hs7 : ss ≤ 4 * mm) (hm : 4 * mm < 2 ^ 20) (h : ∀ S2, z_Y n S2 v d → post (some (aI 1)) S2) (hY : z_Y n S v d) (bc bs : Nat) (hbc : 458 ≤ bc) (hbs : 2748 ≤ bs) : e_Run tb_L_holds post e_no 303 [some (aR 0 0), some (aI (q_deb v np)), some (aI (z_sm (fun p => q_of v p 6) np)), l3, some (aI y), some (aI x), some (aD (q_shr mm ss)), l7] [] S bc bs := by
  obtain ⟨f1, f2⟩ := z_fund hz.2.2.2.1
  have he : z_sm (fun p => q_of v p 6) np = 4 * v 6 - v 7 := hz.2.2.2.2.1
  refine e_walk (stops := [316]) 60 ?_
  refine And.intro (fun _ => ?_) (fun z => absurd (hxy) z)
  refine And.intro (by omega) (And.intro (by omega) ?_)
  refine m_count (w := 8) (r := v 8 + 1000000) hY hi (by decide) rfl (fun S2 hY => ?_)
  refine e_walk (stops := [322]) 60 ?_
  refine And.intro (by omega) (And.intro (by omega) ?_)
  refine m_count (w := 9) (r := v 9 + v 10 - v 11 - v 12 + 1000000) hY hi (by decide) rfl (fun S3 hY => ?_)
  refine e_walk (stops := [331]) 60 ?_
  refine And.intro (fun _ => ?_) (fun z => absurd (f1) z)
  refine And.intro (by omega) (And.intro (by omega) ?_)
  refine m_count (w := 8) (r := v 8 + 1000000) hY hi (by decide) rfl (fun S4 hY => ?_)
  refine e_walk (stops := [339]) 60 ?_
  refine And.intro (by omega) (And.intro (by omega) ?_)
  refine m_count (w := 10) (r := v 9) hY hi (by decide) rfl (fun S5 hY => ?_)
  refine e_walk (stops := [346]) 60 ?_
  refine And.intro (by omega) (And.intro (by omega) ?_)
  refine m_count (w := 11) (r := v 10) hY hi (by decide) rfl (fun S6 hY => ?_)
  refine e_walk (stops := [353]) 60 ?_
  refine And.intro (by omega) (And.intro (by omega) ?_)
  refine m_count (w := 12) (r := v 11) hY hi (by decide) rfl (fun S7 hY => ?_)
  refine e_walk (stops := [360]) 60 ?_
  refine And.intro (by omega) (And.intro (by omega) ?_)
  refine m_count (w := 13) (r := v 12) hY hi (by decide) rfl (fun S8 hY => ?_)
  refine e_walk (stops := [370]) 60 ?_
  refine And.intro (fun _ => ?_) (fun z => absurd (f2) z)
  refine And.intro (by omega) (And.intro (by omega) ?_)
  refine m_count (w := 14) (r := q_deb v np) hY hi (by decide) rfl (fun S9 hY => ?_)
  have tail : ∀ (S1 : eM) (bc bs : Nat), z_Y n S1 v d → 448 ≤ bc → 2688 ≤ bs → e_Run tb_L_holds post e_no 409 [some (aR 0 0), some (aI (q_deb v np)), some (aI (z_sm (fun p => q_of v p 6) np)), l3, some (aI y), some (aI x), some (aD (q_shr mm ss)), l7] [] S1 bc bs := by
    intro S1 bc bs hY hb hs
    refine e_walk (stops := [417]) 60 ?_
    refine And.intro (by omega) (And.intro (by omega) ?_)
    refine m_count (w := 6) (r := v 6) hY hi (by decide) rfl (fun S2 hY => ?_)
    refine e_walk (stops := [424]) 60 ?_
    refine And.intro (by omega) (And.intro (by omega) ?_)
    refine m_count (w := 7) (r := v 7) hY hi (by decide) rfl (fun S3 hY => ?_)
    refine e_walk (stops := [432]) 60 ?_
    refine And.intro (fun _ => ?_) (fun z => absurd (he) z)
    refine l_played hY hi h6 h7 hs7 hm ?_
    refine e_walk (stops := [435]) 60 ?_
    show e_Run tb_L_holds post e_no 435 [some (aR 0 0), some (aI (q_deb v np)), some (aI (z_sm (fun p => q_of v p 6) np)), l3, some (aI y), some (aI x), some (aD (q_shr mm ss)), l7] [aI (Op.cmpValue (FP.dcmp (q_shr mm ss) (q_shr mm ss)) .l)] S3 _ _
    rw [z_shr hm]
    refine e_walk (stops := [442]) 60 ?_
    refine And.intro (fun _ => ?_) (fun z => absurd (rfl) z)
    refine And.intro (by omega) (And.intro (by omega) ?_)
    refine L_areTools hY hi hz (fun S4 hY => ?_)
    refine e_walk (stops := []) 60 ?_
    exact And.intro (fun z => absurd z (by decide)) (fun _ => h S4 hY)
  cases c : q_sun v with
  | true =>
    have c2 : v 3 - v 3 / 7 * 7 = 6 := of_decide_eq_true c
    refine e_walk (stops := [379]) 60 ?_
    refine And.intro (fun _ => ?_) (fun z => absurd (rfl) z)
    refine And.intro (by omega) (And.intro (by omega) ?_)
    refine m_count (w := 4) (r := 1) hY hi (by decide) (show cond (q_sun v) 1 0 = (1 : Int32) by rw [c]; rfl) (fun S10 hY => ?_)
    refine e_walk (stops := [393]) 60 ?_
    refine And.intro (fun _ => ?_) (fun z => absurd (rfl) z)
    refine And.intro (by omega) (And.intro (by omega) ?_)
    refine m_count (w := 3) (r := v 3) hY hi (by decide) rfl (fun S11 hY => ?_)
    refine e_walk (stops := [409]) 60 ?_
    refine And.intro (by decide) ?_
    refine And.intro (fun _ => ?_) (fun z => absurd (c2) z)
    refine And.intro (fun _ => ?_) (fun z => absurd (rfl) z)
    exact tail S11 _ _ hY (by omega) (by omega)
  | false =>
    have c2 : ¬ v 3 - v 3 / 7 * 7 = 6 := of_decide_eq_false c
    refine e_walk (stops := [379]) 60 ?_
    refine And.intro (fun _ => ?_) (fun z => absurd (rfl) z)
    refine And.intro (by omega) (And.intro (by omega) ?_)
    refine m_count (w := 4) (r := 0) hY hi (by decide) (show cond (q_sun v) 1 0 = (0 : Int32) by rw [c]; rfl) (fun S10 hY => ?_)
    refine e_walk (stops := [393]) 60 ?_
    refine And.intro (fun z => absurd z (by decide)) (fun _ => ?_)
    refine And.intro (by omega) (And.intro (by omega) ?_)
    refine m_count (w := 3) (r := v 3) hY hi (by decide) rfl (fun S11 hY => ?_)
    refine e_walk (stops := [409]) 60 ?_
    refine And.intro (by decide) ?_
    refine And.intro (fun z => absurd z (c2)) (fun _ => ?_)
    refine And.intro (fun _ => ?_) (fun z => absurd (rfl) z)
    exact tail S11 _ _ hY (by omega) (by omega)
set_option maxRecDepth 8000 in
set_option maxHeartbeats 8000000 in
theorem L_holds (hY : z_Y n S v d) (hi : q_inv n v np ni nl) (hz : z_ok n v np ni nl) (hn : n ≤ 1000) (h : ∀ S2, z_Y n S2 v d → post (some (aI 1)) S2) : w_L_holds [aR 0 0] S post := by
  have hnp := hi.1.1
  obtain ⟨mm, ss, h6, h7, hs7, hmm⟩ := hi.2.2.2.2.2.2
  have hb4 := q_bs_lt v np 4 (by decide)
  have hsh := q_sh_le v (q_bs v np 4) np 4
  have rest : ∀ (S1 : eM) (l6 l7 : Option eV) (bc bs : Nat), z_Y n S1 v d → 465 ≤ bc → 2790 ≤ bs → e_Run tb_L_holds post e_no 161 [some (aR 0 0), some (aI (q_deb v np)), some (aI (z_sm (fun p => q_of v p 6) np)), some (aI (nI (q_bs v np 4))), some (aI (z_mx v np 4)), some (aI (nI 4)), l6, l7] [] S1 bc bs := by
    intro S1 l6 l7 bc bs hY hb hs
    have hp : q_pm v np (q_bs v np 4) = v 15 * (4 - nI (q_sh v (q_bs v np 4) np 4)) * cond (decide (q_sh v (q_bs v np 4) np 4 = 0)) 2 1 := rfl
    have tail : ∀ (S1 : eM) (bc bs : Nat), z_Y n S1 v d → 462 ≤ bc → 2772 ≤ bs → e_Run tb_L_holds post e_no 262 [some (aR 0 0), some (aI (q_deb v np)), some (aI (z_sm (fun p => q_of v p 6) np)), some (aI (nI (q_bs v np 4))), some (aI (z_mx v np 4)), some (aI (q_pm v np (q_bs v np 4))), l6, l7] [] S1 bc bs := by
      intro S1 bc bs hY hb hs
      by_cases c : mm = 0
      · have e : q_shr mm ss = 4607182418800017408 := by unfold q_shr; rw [if_pos c]
        refine e_walk (stops := [268]) 60 ?_
        refine And.intro (by omega) (And.intro (by omega) ?_)
        refine m_count (w := 6) (r := nI mm) hY hi (by decide) h6 (fun S2 hY => ?_)
        refine e_walk (stops := [303]) 60 ?_
        refine And.intro (fun _ => ?_) (fun z => absurd ((by rw [c]; rfl)) z)
        have z := L_hold2 (post := post) (l3 := some (aI (nI (q_bs v np 4)))) (l7 := none) hi hz (z_mx_bs (np := np) hz.2.2.1 3).symm h6 h7 hs7 (by omega) h hY (bc - 1) (bs - 6) (by omega) (by omega)
        rw [e] at z
        exact z
      · obtain ⟨fn, -⟩ := fp_share (a := 4 * mm - ss) (b := 4 * mm) (by omega) (by omega) (by omega)
        have e : q_shr mm ss = FP.ddiv (FP.i2d (nI (4 * mm - ss))) (FP.i2d (nI (4 * mm))) := by unfold q_shr; rw [if_neg c]
        refine e_walk (stops := [268]) 60 ?_
        refine And.intro (by omega) (And.intro (by omega) ?_)
        refine m_count (w := 6) (r := nI mm) hY hi (by decide) h6 (fun S2 hY => ?_)
        refine e_walk (stops := [282]) 60 ?_
        refine And.intro (fun z => absurd z (nI_ne0 (by omega) (by omega))) (fun _ => ?_)
        refine And.intro (by omega) (And.intro (by omega) ?_)
        refine m_count (w := 6) (r := nI mm) hY hi (by decide) h6 (fun S3 hY => ?_)
        refine e_walk (stops := [289]) 60 ?_
        refine And.intro (by omega) (And.intro (by omega) ?_)
        refine m_count (w := 7) (r := nI ss) hY hi (by decide) h7 (fun S4 hY => ?_)
        refine e_walk (stops := [298]) 60 ?_
        refine And.intro (by omega) (And.intro (by omega) ?_)
        refine m_count (w := 6) (r := nI mm) hY hi (by decide) h6 (fun S5 hY => ?_)
        refine e_walk (stops := [299]) 1 ?_
        show e_Run tb_L_holds post e_no 299 [some (aR 0 0), some (aI (q_deb v np)), some (aI (z_sm (fun p => q_of v p 6) np)), some (aI (nI (q_bs v np 4))), some (aI (z_mx v np 4)), some (aI (q_pm v np (q_bs v np 4))), l6, l7] [aI (nI 4 * nI mm), aD (FP.i2d (nI 4 * nI mm - nI ss))] S5 _ _
        rw [nI_mul, q_sub hs7]
        refine e_walk (stops := [303]) 60 ?_
        refine And.intro fn ?_
        have z := L_hold2 (post := post) (l3 := some (aI (nI (q_bs v np 4)))) (l7 := none) hi hz (z_mx_bs (np := np) hz.2.2.1 3).symm h6 h7 hs7 (by omega) h hY (bc - 1 - 1 - 1 - 1) (bs - 6 - 6 - 6 - 6) (by omega) (by omega)
        rw [e] at z
        exact z
    refine e_walk (stops := [238]) 60 ?_
    refine And.intro (fun _ => ?_) (fun z => absurd (by decide) z)
    refine And.intro (by omega) (And.intro (by omega) ?_)
    refine m_count (w := 17) (r := v 15) hY hi (by decide) rfl (fun S2 hY => ?_)
    refine e_walk (stops := [244]) 60 ?_
    refine And.intro (by omega) (And.intro (by omega) ?_)
    refine m_shortOf hY hi hb4 rfl (fun S3 hY => ?_)
    refine e_walk (stops := [251]) 60 ?_
    refine And.intro (by omega) (And.intro (by omega) ?_)
    refine m_shortOf hY hi hb4 rfl (fun S4 hY => ?_)
    by_cases c : q_sh v (q_bs v np 4) np 4 = 0
    · rw [decide_eq_true c] at hp
      refine e_walk (stops := [262]) 60 ?_
      refine And.intro (fun _ => ?_) (fun z => absurd ((by rw [c]; rfl)) z)
      have z := tail S4 (bc - 1 - 1 - 1) (bs - 6 - 6 - 6) hY (by omega) (by omega)
      rw [hp] at z
      exact z
    · rw [decide_eq_false c] at hp
      refine e_walk (stops := [262]) 60 ?_
      refine And.intro (fun z => absurd z (nI_ne0 (by omega) (by omega))) (fun _ => ?_)
      have z := tail S4 (bc - 1 - 1 - 1) (bs - 6 - 6 - 6) hY (by omega) (by omega)
      rw [hp] at z
      exact z
  have marches : ∀ c m, m + c = 4 → ∀ (S1 : eM) (l6 l7 : Option eV) (bc bs : Nat), z_Y n S1 v d → 432 * c + 465 ≤ bc → 25632 * c + 2790 ≤ bs → e_Run tb_L_holds post e_no 161 [some (aR 0 0), some (aI (q_deb v np)), some (aI (z_sm (fun p => q_of v p 6) np)), some (aI (nI (q_bs v np 4))), some (aI (z_mx v np m)), some (aI (nI m)), l6, l7] [] S1 bc bs := by
    intro c
    induction c with
    | zero =>
      intro m hm S1 l6 l7 bc bs hY hb hs
      obtain rfl : m = 4 := by omega
      exact rest S1 _ _ _ _ hY (by omega) (by omega)
    | succ c ih =>
      intro m hm S1 l6 l7 bc bs hY hb hs
      have nx := ih (m + 1) (by omega)
      exact L_pen (N := 432 * c + 465) (M := 25632 * c + 2790) hi (by omega) (fun S2 l6 bc bs hY hb hs => nx S2 l6 l7 bc bs hY hb hs) hY bc bs (by omega) (by omega)
  obtain ⟨K, hK⟩ : ∃ K : Nat, K = 105324 := ⟨_, rfl⟩
  have pups : ∀ c p, p + c = np → ∀ (S1 : eM) (l4 l5 l6 l7 : Option eV) (bc bs : Nat), z_Y n S1 v d → 13 * c + 2194 ≤ bc → 78 * c + K ≤ bs → e_Run tb_L_holds post e_no 6 [some (aR 0 0), some (aI (q_deb v p)), some (aI (z_sm (fun p => q_of v p 6) p)), some (aI (nI p)), l4, l5, l6, l7] [] S1 bc bs := by
    intro c
    induction c with
    | zero =>
      intro p hp S1 l4 l5 l6 l7 bc bs hY hb hs
      obtain rfl : p = np := by omega
      refine e_walk (stops := [12]) 60 ?_
      refine And.intro (by omega) (And.intro (by omega) ?_)
      refine m_count (w := 0) (r := nI p) hY hi (by decide) hi.1.2.2.2.1 (fun S2 hY => ?_)
      refine e_walk (stops := [154]) 60 ?_
      refine And.intro (fun _ => ?_) (fun z => absurd (nI_le (Nat.le_refl _) (by omega)) z)
      refine l_bestMarch hY hi (fun S3 hY => ?_)
      refine e_walk (stops := [161]) 60 ?_
      exact marches 4 0 rfl S3 _ _ _ _ hY (by omega) (by omega)
    | succ c ih =>
      intro p hp S1 l4 l5 l6 l7 bc bs hY hb hs
      have nx := ih (p + 1) (by omega)
      exact L_pup (N := 13 * c + 2194) (M := 78 * c + K) hi hz.1 hn (by omega) (fun S2 l4 l5 bc bs hY hb hs => nx S2 l4 l5 l6 l7 bc bs hY hb hs) hY bc bs (by omega) (by omega)
  refine e_walk (stops := [6]) 60 ?_
  exact pups np 0 (by omega) S none none none none _ _ hY (by omega) (by omega)
end LawHolds
