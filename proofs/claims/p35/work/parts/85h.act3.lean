/-! The law: acts, 3; an act as a whole. Own work (wip/p35/laws). -/
section LawAct3
variable {S S1 S2 : eM} {post : eQ} {v v2 : qV} {n np ni nl p t s : Nat} {d : z_D} {x y : Int32}
theorem z_teach3 {p t : Nat} : q_teach v p t 3 = v 3 := q_teach_at (by omega) (by omega) (by omega) (by omega) (by omega) (by omega)
/-- a lesson, from 1015 on -/
theorem A_teach (hY : z_Y n S v d) (hA : z_A n v np ni nl) (h : z_fin n post) (hp : p < np) (s18 : s < 18) (bc bs : Nat) (hb : 30 ≤ bc) (hs : 180 ≤ bs) : e_Run tb_L_act post e_no 1015 (z_lc x y np ni p t s z_n7) [] S bc bs := by
  obtain ⟨hi, hz, hD⟩ := hA
  have hr := z_low_lt (x := y >>> ((6 : Int32) &&& 31)) (k := 3) (by decide)
  refine e_walkS mm_L_act_10 (stops := [1033]) 60 ?_
  refine And.intro (fun z => absurd z (nI_ge (b := 18) s18 (by decide))) (fun _ => ?_)
  refine L_low (k := 3) (by decide) (by decide) ?_
  refine e_walkS mm_L_act_10 (stops := [1036]) 60 ?_
  refine And.intro (by omega) (And.intro (by omega) ?_)
  refine L_teaches hY hi hp hr (fun S2 hY => ?_) (fun w S2 hY => ?_)
  · refine e_walkS mm_L_act_10 (stops := []) 60 ?_
    exact h.go hY hi hz hD rfl
  · refine e_walkS mm_L_act_10 (stops := []) 60 ?_
    exact h.go hY (q_inv_teach hi hp hr w) (z_ok_teach hz hi.1.1 hp) hD z_teach3
/-- whom a lesson helps, and the text, from 1037 on -/
theorem A_helps (hY : z_Y n S v d) (hA : z_A n v np ni nl) (h : z_fin n post) (bc bs : Nat) (hb : 336 ≤ bc) (hs : 19296 ≤ bs) : e_Run tb_L_act post e_no 1037 (z_lc x y np ni p t 18 z_n7) [] S bc bs := by
  obtain ⟨hi, hz, hD⟩ := hA
  have hr := z_low_lt (x := y >>> ((3 : Int32) &&& 31)) (k := 3) (by decide)
  have hm := z_low_lt (x := y) (k := 4) (by decide)
  refine e_walkS mm_L_act_11 (stops := [1050]) 60 ?_
  refine And.intro (fun _ => ?_) (fun z => absurd (rfl) z)
  refine L_low (k := 4) (by decide) (by decide) ?_
  refine e_walkS mm_L_act_11 (stops := [1057]) 60 ?_
  refine L_low (k := 3) (by decide) (by decide) ?_
  refine e_walkS mm_L_act_11 (stops := [1060]) 60 ?_
  refine And.intro (by omega) (And.intro (by omega) ?_)
  refine L_helpsSo hY hi hm hr (fun S2 d2 hY => ?_)
  refine e_walkS mm_L_act_11 (stops := [1069]) 60 ?_
  refine And.intro (fun z => absurd z (by decide)) (fun _ => ?_)
  refine L_low (k := 4) (by decide) (by decide) ?_
  refine e_walkS mm_L_act_11 (stops := [1072]) 60 ?_
  refine And.intro (by omega) (And.intro (by omega) ?_)
  refine L_isText hY hi hm (fun S3 hY => ?_)
  refine e_walkS mm_L_act_11 (stops := []) 60 ?_
  exact And.intro (fun z => absurd z (by decide)) (fun _ => h.go hY hi hz hD rfl)
theorem z_march_at {m j : Nat} (hi : q_inv n v np ni nl) (a : j = 3 ∨ 146 ≤ j) : q_march v m np j = v j := by
  have hnp := hi.1.1
  rw [q_march_at (by omega) (by omega) (by omega) (by omega) (by omega)]
  exact q_mr_at hnp (by omega) (fun p hp => (hi.ok0.has hp).1) 4
theorem z_cp_march {m : Nat} (hi : q_inv n v np ni nl) : q_cp v (q_march v m np) = v := funext fun j => by
  unfold q_cp
  split
  · rfl
  · exact z_march_at hi (by omega)
set_option maxHeartbeats 8000000 in
/-- a march, from 1081 on -/
theorem A_march (hY : z_Y n S v d) (hA : z_A n v np ni nl) (h : z_fin n post) (bc bs : Nat) (hb : 30 ≤ bc) (hs : 180 ≤ bs) : e_Run tb_L_act post e_no 1081 (z_lc x y np ni p t s z_n7) [] S bc bs := by
  obtain ⟨hi, hz, hD⟩ := hA
  have hm := z_low_lt (x := y) (k := 4) (by decide)
  have hsh := q_sh_le v (z_low y 4) np 4
  have hr := z_low_lt (x := y >>> ((4 : Int32) &&& 31)) (k := 3) (by decide)
  refine e_walkS mm_L_act_12 (stops := [1085]) 60 ?_
  refine l_keep hY hi (fun S1 hY => ?_)
  refine e_walkS mm_L_act_12 (stops := [1093]) 60 ?_
  refine L_low (k := 4) (by decide) (by decide) ?_
  refine e_walkS mm_L_act_12 (stops := [1096]) 60 ?_
  refine And.intro (by omega) (And.intro (by omega) ?_)
  refine m_shortOf hY hi hm rfl (fun S2 hY => ?_)
  refine e_walkS mm_L_act_12 (stops := [1104]) 60 ?_
  refine And.intro (by omega) (And.intro (by omega) ?_)
  refine m_count (w := 7) (r := v 7) hY hi (by decide) rfl (fun S3 hY => ?_)
  refine e_walkS mm_L_act_12 (stops := [1112]) 60 ?_
  refine And.intro (by omega) (And.intro (by omega) ?_)
  refine m_count (w := 6) (r := v 6) hY hi (by decide) rfl (fun S4 hY => ?_)
  refine e_walkS mm_L_act_12 (stops := [1119]) 60 ?_
  refine And.intro (by omega) (And.intro (by omega) ?_)
  refine m_count (w := 4) (r := cond (q_sun v) 1 0) hY hi (by decide) rfl (fun S5 hY => ?_)
  have refused : ∀ (x12 : Int32) (S : eM), z_Y n S v (d.1, d.2.1, v, true, d.2.2.2.2) → ∀ bc bs, 10 ≤ bc → 60 ≤ bs → e_Run tb_L_act post e_no 1139 (z_lc x y np ni p t s [some (aI (v 3)), some (aI (nI (q_sh v (z_low y 4) np 4))), some (aI (v 7)), some (aI (v 6)), some (aI x12), none, none]) [aI (-7002)] S bc bs := by
    intro x12 S hY bc bs hb hs
    refine e_walkS mm_L_act_12 (stops := [1160]) 60 ?_
    refine And.intro (fun z => absurd z (by decide)) (fun _ => ?_)
    refine And.intro (fun _ => ?_) (fun z => absurd (rfl) z)
    refine And.intro (by omega) (And.intro (by omega) ?_)
    refine m_count (w := 6) (r := v 6) hY hi (by decide) rfl (fun S6 hY => ?_)
    refine e_walkS mm_L_act_12 (stops := []) 60 ?_
    exact And.intro (fun _ => h.go hY hi hz hD rfl) (fun z => absurd rfl z)
  cases hsun : q_sun v with
  | false =>
    refine e_walkS mm_L_act_12 (stops := [1136]) 60 ?_
    refine And.intro (fun z => absurd z (by decide)) (fun _ => ?_)
    refine L_low (k := 4) (by decide) (by decide) ?_
    show e_Run tb_L_act post e_no 1136 (z_lc x y np ni p t s [some (aI (v 3)), some (aI (nI (q_sh v (z_low y 4) np 4))), some (aI (v 7)), some (aI (v 6)), some (aI 0), none, none]) [aI (nI (z_low y 4)), aR 0 0] S5 _ _
    refine e_walkS mm_L_act_12 (stops := [1139]) 60 ?_
    refine And.intro (by omega) (And.intro (by omega) ?_)
    refine l_tryMarch hY hi hm (fun w => ?_) (fun w => ?_)
    · rw [hsun] at w; exact Bool.noConfusion w
    · exact refused 0 _ hY _ _ (by omega) (by omega)
  | true =>
    refine e_walkS mm_L_act_12 (stops := [1136]) 60 ?_
    refine And.intro (fun _ => ?_) (fun z => absurd (rfl) z)
    refine L_low (k := 4) (by decide) (by decide) ?_
    show e_Run tb_L_act post e_no 1136 (z_lc x y np ni p t s [some (aI (v 3)), some (aI (nI (q_sh v (z_low y 4) np 4))), some (aI (v 7)), some (aI (v 6)), some (aI 1), none, none]) [aI (nI (z_low y 4)), aR 0 0] S5 _ _
    refine e_walkS mm_L_act_12 (stops := [1139]) 60 ?_
    refine And.intro (by omega) (And.intro (by omega) ?_)
    refine l_tryMarch hY hi hm (fun w S6 hY => ?_) (fun w => ?_)
    · have hi2 := q_inv_march hi hm
      have hz2 := z_ok_march (m := z_low y 4) hz hi
      have g7 : q_march v (z_low y 4) np 7 = v 7 + nI (q_sh v (z_low y 4) np 4) := by unfold q_march; rw [q_un (by omega), q_un (by omega), q_ue]
      have g6 : q_march v (z_low y 4) np 6 = v 6 + 1 := by unfold q_march; rw [q_un (by omega), q_un (by omega), q_un (by omega), q_ue]
      have g4 : q_march v (z_low y 4) np 4 = 1 := by unfold q_march; rw [q_un (by omega), q_un (by omega), q_un (by omega), q_un (by omega), q_ue]
      have g3 : q_march v (z_low y 4) np 3 = v 3 := z_march_at hi (Or.inl rfl)
      refine e_walkS mm_L_act_12 (stops := [1189]) 60 ?_
      refine And.intro (fun _ => ?_) (fun z => absurd (nI_pos' (by omega)) z)
      refine And.intro (fun z => absurd z (by decide)) (fun _ => ?_)
      refine And.intro (fun _ => ?_) (fun z => absurd (rfl) z)
      refine And.intro (by omega) (And.intro (by omega) ?_)
      refine m_count (w := 7) (r := v 7 + nI (q_sh v (z_low y 4) np 4)) hY hi2 (by decide) (c_7.trans g7) (fun S7 hY => ?_)
      refine e_walkS mm_L_act_12 (stops := [1203]) 60 ?_
      refine And.intro (fun _ => ?_) (fun z => absurd (rfl) z)
      refine And.intro (by omega) (And.intro (by omega) ?_)
      refine m_count (w := 6) (r := v 6 + 1) hY hi2 (by decide) (c_6.trans g6) (fun S8 hY => ?_)
      refine e_walkS mm_L_act_12 (stops := [1215]) 60 ?_
      refine And.intro (fun _ => ?_) (fun z => absurd (rfl) z)
      refine And.intro (by omega) (And.intro (by omega) ?_)
      refine l_tryMarch (m := 0) hY hi2 (by decide) (fun w => ?_) (fun w => ?_)
      · rw [g4] at w
        rw [show decide (¬ (1 : Int32) = 1) = false by decide, Bool.and_false] at w
        exact Bool.noConfusion w
      · have hfin : ∀ (S : eM), z_Y (n + 1) S (q_march v (z_low y 4) np) (z_nx (d.1, d.2.1, v, true, d.2.2.2.2) v) → post (some (aI 1)) S := fun S hY => h S _ _ _ _ _ hY ⟨hi2, hz2.mono (Nat.le_succ n), hD.cg g3⟩
        refine e_walkS mm_L_act_12 (stops := [1240]) 60 ?_
        refine And.intro (fun _ => ?_) (fun z => absurd (rfl) z)
        refine And.intro (fun z => absurd z (by decide)) (fun _ => ?_)
        refine L_low (k := 3) (by decide) (by decide) ?_
        by_cases c0 : z_low (y >>> ((4 : Int32) &&& 31)) 3 = 0
        · refine e_walkS mm_L_act_12 (stops := [1247]) 60 ?_
          refine And.intro (fun z => absurd z ((by show ¬ 0 < nI (z_low (y >>> ((4 : Int32) &&& 31)) 3); rw [c0]; decide))) (fun _ => ?_)
          refine And.intro (by omega) (And.intro (by omega) ?_)
          refine l_restore hY hi2 (fun S9 d9 hY => ?_)
          rw [z_cp_march hi] at hY
          refine e_walkS mm_L_act_12 (stops := [1258]) 60 ?_
          refine And.intro (fun _ => ?_) (fun z => absurd (rfl) z)
          refine And.intro (by omega) (And.intro (by omega) ?_)
          refine m_count (w := 6) (r := v 6) hY (hi.mono (Nat.le_succ n)) (by decide) rfl (fun S10 hY => ?_)
          refine e_walkS mm_L_act_12 (stops := [1269]) 60 ?_
          refine And.intro (fun _ => ?_) (fun z => absurd (rfl) z)
          refine And.intro (by omega) (And.intro (by omega) ?_)
          refine m_count (w := 7) (r := v 7) hY (hi.mono (Nat.le_succ n)) (by decide) rfl (fun S11 hY => ?_)
          refine e_walkS mm_L_act_12 (stops := []) 60 ?_
          exact And.intro (fun _ => h S11 _ _ _ _ _ hY ⟨hi.mono (Nat.le_succ n), hz.mono (Nat.le_succ n), hD.cg rfl⟩) (fun z => absurd rfl z)
        · refine e_walkS mm_L_act_12 (stops := []) 60 ?_
          refine And.intro (fun _ => ?_) (fun z => absurd ((show 0 < nI (z_low (y >>> ((4 : Int32) &&& 31)) 3) from nI_lt (a := 0) (by omega) (by omega))) z)
          exact hfin _ hY
    · exact refused 1 _ hY _ _ (by omega) (by omega)
/-- the sorts from 8 on, from 300 on -/
theorem A_rest (hY : z_Y n S v d) (hA : z_A n v np ni nl) (hn : n ≤ 1000) (h : z_fin n post) (hp : p < np) (ht : t < ni) (s8 : 8 ≤ s) (s20 : s < 20) (bc bs : Nat) (hb : 336 ≤ bc) (hs : 19296 ≤ bs) : e_Run tb_L_act post e_no 300 (z_lc x y np ni p t s z_n7) [] S bc bs := by
  have ne : ∀ k, k < 100 → s ≠ k → ¬ nI s = nI k := fun k hk z w => z ((nI_eq (by omega) (by omega)).mp w)
  by_cases c8 : s = 8
  · subst c8; exact A_back hY hA hn h ht _ _ (by omega) (by omega)
  refine e_walkS mm_L_act_4 (stops := [398]) 60 ?_
  refine And.intro (fun z => absurd z (ne 8 (by decide) c8)) (fun _ => ?_)
  by_cases c9 : s = 9
  · subst c9; exact A_mend hY hA h ht _ _ (by omega) (by omega)
  refine e_walkS mm_L_act_5 (stops := [508]) 60 ?_
  refine And.intro (fun z => absurd z (ne 9 (by decide) c9)) (fun _ => ?_)
  by_cases c10 : s = 10
  · subst c10; exact A_dent hY hA h ht _ _ (by omega) (by omega)
  refine e_walkS mm_L_act_6 (stops := [641]) 60 ?_
  refine And.intro (fun z => absurd z (ne 10 (by decide) c10)) (fun _ => ?_)
  by_cases c11 : s = 11
  · subst c11; exact A_pay hY hA hn h hp _ _ (by omega) (by omega)
  refine e_walkS mm_L_act_7 (stops := [771]) 60 ?_
  refine And.intro (fun z => absurd z (ne 11 (by decide) c11)) (fun _ => ?_)
  by_cases c12 : s = 12
  · subst c12; exact A_set hY hA h _ _ (by omega) (by omega)
  refine e_walkS mm_L_act_8 (stops := [869]) 60 ?_
  refine And.intro (fun z => absurd z (ne 12 (by decide) c12)) (fun _ => ?_)
  by_cases c15 : s < 15
  · exact A_pass hY hA hn h hp c15 _ _ (by omega) (by omega)
  refine e_walkS mm_L_act_9 (stops := [1015]) 60 ?_
  refine And.intro (fun _ => ?_) (fun z => absurd (nI_le (a := 15) (by omega) (by omega)) z)
  by_cases c18 : s < 18
  · exact A_teach hY hA h hp c18 _ _ (by omega) (by omega)
  refine e_walkS mm_L_act_10 (stops := [1037]) 60 ?_
  refine And.intro (fun _ => ?_) (fun z => absurd (nI_le (a := 18) (by omega) (by omega)) z)
  by_cases e18 : s = 18
  · subst e18; exact A_helps hY hA h _ _ hb hs
  refine e_walkS mm_L_act_11 (stops := [1081]) 60 ?_
  refine And.intro (fun z => absurd z (ne 18 (by decide) e18)) (fun _ => ?_)
  exact A_march hY hA h _ _ (by omega) (by omega)
/-- which act, from 55 on -/
theorem A_go (hY : z_Y n S v d) (hA : z_A n v np ni nl) (hn : n ≤ 1000) (h : z_fin n post) (hp : 0 < np → p < np) (ht : 0 < ni → t < ni) (s20 : s < 20) (bc bs : Nat) (hb : 336 ≤ bc) (hs : 19296 ≤ bs) : e_Run tb_L_act post e_no 55 (z_lc x y np ni p t s z_n7) [] S bc bs := by
  have hnp := hA.1.1.1
  have hni := hA.1.1.2.1
  by_cases c2 : s < 2
  · refine e_walkS mm_L_act_1 (stops := [65]) 60 ?_
    refine And.intro (fun _ => ?_) (fun z => absurd (nI_lt (b := 2) c2 (by decide)) z)
    exact A_pupil hY hA h _ _ (by omega) (by omega)
  by_cases c0 : np = 0
  · subst c0
    refine e_walkS mm_L_act_1 (stops := [65]) 60 ?_
    refine And.intro (fun z => absurd z (nI_nlt (b := 2) (by omega) (by omega))) (fun _ => ?_)
    refine And.intro (fun _ => ?_) (fun z => absurd (rfl) z)
    exact A_pupil hY hA h _ _ (by omega) (by omega)
  refine e_walkS mm_L_act_1 (stops := [118]) 60 ?_
  refine And.intro (fun z => absurd z (nI_nlt (b := 2) (by omega) (by omega))) (fun _ => ?_)
  refine And.intro (fun z => absurd z (nI_ne0 (by omega) (by omega))) (fun _ => ?_)
  by_cases c4 : s < 4
  · refine e_walkS mm_L_act_2 (stops := [129]) 60 ?_
    refine And.intro (fun _ => ?_) (fun z => absurd (nI_lt (b := 4) c4 (by decide)) z)
    exact A_inst hY hA h _ _ (by omega) (by omega)
  by_cases c1 : ni = 0
  · subst c1
    refine e_walkS mm_L_act_2 (stops := [129]) 60 ?_
    refine And.intro (fun z => absurd z (nI_nlt (b := 4) (by omega) (by omega))) (fun _ => ?_)
    refine And.intro (fun _ => ?_) (fun z => absurd (rfl) z)
    exact A_inst hY hA h _ _ (by omega) (by omega)
  refine e_walkS mm_L_act_2 (stops := [181]) 60 ?_
  refine And.intro (fun z => absurd z (nI_nlt (b := 4) (by omega) (by omega))) (fun _ => ?_)
  refine And.intro (fun z => absurd z (nI_ne0 (by omega) (by omega))) (fun _ => ?_)
  by_cases c8 : s < 8
  · exact A_lend hY hA h (hp (by omega)) (ht (by omega)) c8 _ _ (by omega) (by omega)
  refine e_walkS mm_L_act_3 (stops := [300]) 60 ?_
  refine And.intro (fun _ => ?_) (fun z => absurd (nI_le (a := 8) (by omega) (by omega)) z)
  exact A_rest hY hA hn h (hp (by omega)) (ht (by omega)) (by omega) s20 _ _ hb hs
theorem L_act (hY : z_Y n S v d) (hA : z_A n v np ni nl) (hn : n ≤ 1000) (h : z_fin n post) : w_L_act [aR 0 0, aI x, aI y] S post := by
  have hi := hA.1
  have hnp := hi.1.1
  have hni := hi.1.2.1
  have hs20 := z_low_lt (x := x) (k := 20) (by decide)
  -- from 47 on
  have c3 : ∀ (p t : Nat) (S : eM), (0 < np → p < np) → (0 < ni → t < ni) → z_Y n S v d → ∀ bc bs, 336 ≤ bc → 19296 ≤ bs → e_Run tb_L_act post e_no 45 [some (aR 0 0), some (aI x), some (aI y), some (aI (nI np)), some (aI (nI ni)), some (aI (nI p)), none, none, none, none, none, none, none, none, none] [aI (nI t)] S bc bs := by
    intro p t S hp ht hY bc bs hb hs
    refine e_walkS mm_L_act_0 (stops := [53]) 60 ?_
    refine L_low (k := 20) (by decide) (by decide) ?_
    refine e_walkS mm_L_act_0 (stops := [55]) 60 ?_
    exact A_go hY hA hn h hp ht hs20 _ _ hb hs
  have c2 : ∀ (p : Nat) (S : eM), (0 < np → p < np) → z_Y n S v d → ∀ bc bs, 336 ≤ bc → 19296 ≤ bs → e_Run tb_L_act post e_no 26 [some (aR 0 0), some (aI x), some (aI y), some (aI (nI np)), some (aI (nI ni)), none, none, none, none, none, none, none, none, none, none] [aI (nI p)] S bc bs := by
    intro p S hp hY bc bs hb hs
    by_cases c0 : ni = 0
    · refine e_walkS mm_L_act_0 (stops := [45]) 60 ?_
      refine And.intro (fun _ => ?_) (fun z => absurd ((by rw [c0]; rfl)) z)
      exact c3 p 0 S hp (fun z => absurd c0 (by omega)) hY _ _ hb hs
    · have hr := z_low_lt (x := y >>> ((4 : Int32) &&& 31)) (k := ni) (by omega)
      refine e_walkS mm_L_act_0 (stops := [45]) 60 ?_
      refine And.intro (fun z => absurd z (nI_ne0 (by omega) (by omega))) (fun _ => ?_)
      refine L_low (k := ni) (by omega) (by omega) ?_
      exact c3 p _ S hp (fun _ => hr) hY _ _ hb hs
  refine e_walkS mm_L_act_0 (stops := [5]) 60 ?_
  refine And.intro (by omega) (And.intro (by omega) ?_)
  refine m_count (w := 0) (r := nI np) hY hi (by decide) hi.1.2.2.2.1 (fun S1 hY => ?_)
  refine e_walkS mm_L_act_0 (stops := [11]) 60 ?_
  refine And.intro (by omega) (And.intro (by omega) ?_)
  refine m_count (w := 1) (r := nI ni) hY hi (by decide) hi.1.2.2.2.2.1 (fun S2 hY => ?_)
  by_cases c0 : np = 0
  · refine e_walkS mm_L_act_0 (stops := [26]) 60 ?_
    refine And.intro (fun _ => ?_) (fun z => absurd ((by rw [c0]; rfl)) z)
    exact c2 0 S2 (fun z => absurd c0 (by omega)) hY _ _ (by decide) (by decide)
  · have hr := z_low_lt (x := y) (k := np) (by omega)
    refine e_walkS mm_L_act_0 (stops := [26]) 60 ?_
    refine And.intro (fun z => absurd z (nI_ne0 (by omega) (by omega))) (fun _ => ?_)
    refine L_low (k := np) (by omega) (by omega) ?_
    exact c2 _ S2 (fun _ => hr) hY _ _ (by decide) (by decide)
end LawAct3
