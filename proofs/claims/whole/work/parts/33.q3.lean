/-! What walks come to, 3: what the reference tells. Own work. -/
section RefTells
variable {S S2 : eM} {v v2 sp : qV} {sv : Nat → qV} {sn ln : Nat} {tk : Bool} {tx : Nat → Int32}
/-- behind a call that only tells -/
def q_tel (S : eM) (v : qV) (sv : Nat → qV) (sn : Nat) (sp : qV) (tk : Bool) (tx : Nat → Int32) (ln : Nat) (post : eQ) (e : Nat) (r : Int32) : Prop :=
  ∀ S2, q_fm S S2 → q_M S2 v sv sn sp tk tx ln → mI S2 13 0 8 = nI e → post (some (aI (cond (decide (e = 0)) r 0))) S2
def q_pTold (v : qV) (p w : Nat) : Int32 := if w = 4 then q_of v p 4 - 1 else q_of v p w
theorem q_X5_pupilTold {post : eQ} {p w : Nat} (hp : p < 10) (hw : w < 7) (h : post (some (aI (q_pTold (mI S 14 0) p w))) S) : w_X5_pupilTold [aR 13 0, aI (nI p), aI (nI w)] S post := by
  unfold q_pTold at h
  refine e_walk (stops := [11, 22]) 20 ?_
  refine And.intro (fun c => ?_) (fun c => ?_)
  · have c : w = 4 := (nI_eq (by omega) (by decide)).mp c
    rw [if_pos c] at h
    refine q_X5_of (w := 4) hp (by decide) ?_
    refine e_walk (stops := []) 20 ?_
    exact h
  · have c : ¬ w = 4 := fun z => c (by rw [z]; rfl)
    rw [if_neg c] at h
    refine q_X5_of hp hw ?_
    refine e_walk (stops := []) 20 ?_
    exact h
def q_pOfE (np : Nat) (x y : Int32) : Nat := cond (q_ix x np) (cond (q_ix y 7) 0 2) 1
theorem q_pOfE_lt {np : Nat} {x y : Int32} : q_pOfE np x y < 65536 := by
  unfold q_pOfE
  cases q_ix x np <;> cases q_ix y 7 <;> decide
theorem q_X5_pupilOf {post : eQ} {np ni : Nat} {x y : Int32} (hM : q_M S v sv sn sp tk tx ln) (hv : q_ok0 v np ni) (h : q_tel S v sv sn sp tk tx ln post (q_pOfE np x y) (q_pTold v x.toNatClampNeg y.toNatClampNeg)) : w_X5_pupilOf [aR 13 0, aI x, aI y] S post := by
  have hv0 : q_ok0 (mI S 14 0) np ni := by rw [hM.eqv]; exact hv
  have hnp := hv.1
  have fin : ∀ e : Nat, e = q_pOfE np x y → e_Run tb_X5_pupilOf post e_no 28 [some (aR 13 0), some (aI x), some (aI y)] [aI (nI e), aR 13 0] S 0 0 := by
    intro e he
    refine e_walk (stops := [31]) 1 ?_
    refine q_M_holds hM (by rw [he]; exact q_pOfE_lt) (fun S1 f1 m1 t1 => ?_)
    rw [he] at t1 ⊢
    have h := h S1 f1 m1 t1
    refine e_walk (stops := [40]) 20 ?_
    by_cases z : q_pOfE np x y = 0
    · rw [decide_eq_true z] at h ⊢
      unfold q_pOfE at z
      cases z1 : q_ix x np with
      | false => rw [z1] at z; exact absurd (show (1 : Nat) = 0 from z) (by decide)
      | true =>
        cases z2 : q_ix y 7 with
        | false => rw [z1, z2] at z; exact absurd (show (2 : Nat) = 0 from z) (by decide)
        | true =>
          obtain ⟨p, hp, rfl⟩ := q_ix_of (by omega) z1
          obtain ⟨w, hw, rfl⟩ := q_ix_of (by omega) z2
          rw [nI_clamp (by omega), nI_clamp (by omega)] at h
          refine And.intro (fun c => absurd c (by decide)) (fun c => ?_)
          refine q_X5_pupilTold (by omega) hw ?_
          rw [m1.eqv]
          refine e_walk (stops := []) 20 ?_
          exact h
    · rw [decide_eq_false z] at h ⊢
      exact And.intro (fun c => h) (fun c => absurd rfl c)
  refine e_walk (stops := [6]) 20 ?_
  refine q_X5_isPupil hv0 ?_
  refine e_walk (stops := [20, 28]) 20 ?_
  cases z1 : q_ix x np with
  | false => exact And.intro (fun c => fin 1 (by unfold q_pOfE; rw [z1]; rfl)) (fun c => absurd rfl c)
  | true =>
    refine And.intro (fun c => absurd c (by decide)) (fun c => ?_)
    refine q_X5_in ?_
    rw [show (6 : Int32) = nI 7 - 1 by decide, q_hi (by decide), show (decide (¬ y < 0) && decide (y < nI 7)) = q_ix y 7 from rfl]
    refine e_walk (stops := [28]) 20 ?_
    cases z2 : q_ix y 7 with
    | false => exact And.intro (fun c => fin 2 (by unfold q_pOfE; rw [z1, z2]; rfl)) (fun c => absurd rfl c)
    | true => exact And.intro (fun c => absurd c (by decide)) (fun c => fin 0 (by unfold q_pOfE; rw [z1, z2]; rfl))
def q_iTold (v : qV) (i w : Nat) : Int32 := if w = 2 then q_its v i 2 - 1 else if w = 4 then (if q_its v i 2 = 0 then -1 else q_its v i 4) else if w = 5 then cond (decide (q_its v i 1 < 5)) 1 0 else q_its v i w
theorem q_X5_instrumentTold {post : eQ} {i w : Nat} (hi : i < 10) (hw : w < 6) (h : post (some (aI (q_iTold (mI S 14 0) i w))) S) : w_X5_instrumentTold [aR 13 0, aI (nI i), aI (nI w)] S post := by
  unfold q_iTold at h
  rcases (show w = 0 ∨ w = 1 ∨ w = 2 ∨ w = 3 ∨ w = 4 ∨ w = 5 by omega) with rfl | rfl | rfl | rfl | rfl | rfl
  · refine e_walk (stops := [81]) 20 ?_
    refine And.intro (fun c => absurd c (by decide)) (fun c => ?_)
    refine And.intro (fun c => absurd c (by decide)) (fun c => ?_)
    refine And.intro (fun c => absurd c (by decide)) (fun c => ?_)
    refine And.intro (fun c => absurd c (by decide)) (fun c => ?_)
    refine q_X5_its (w := 0) hi (by decide) ?_
    refine e_walk (stops := []) 20 ?_
    exact h
  · refine e_walk (stops := [81]) 20 ?_
    refine And.intro (fun c => absurd c (by decide)) (fun c => ?_)
    refine And.intro (fun c => absurd c (by decide)) (fun c => ?_)
    refine And.intro (fun c => absurd c (by decide)) (fun c => ?_)
    refine And.intro (fun c => absurd c (by decide)) (fun c => ?_)
    refine q_X5_its (w := 1) hi (by decide) ?_
    refine e_walk (stops := []) 20 ?_
    exact h
  · refine e_walk (stops := [38]) 20 ?_
    refine And.intro (fun c => ?_) (fun c => absurd rfl c)
    refine q_X5_its (w := 2) hi (by decide) ?_
    refine e_walk (stops := []) 20 ?_
    exact h
  · refine e_walk (stops := [81]) 20 ?_
    refine And.intro (fun c => absurd c (by decide)) (fun c => ?_)
    refine And.intro (fun c => ?_) (fun c => absurd rfl c)
    refine q_X5_its (w := 3) hi (by decide) ?_
    refine e_walk (stops := []) 20 ?_
    exact h
  · refine e_walk (stops := [47]) 20 ?_
    refine And.intro (fun c => absurd c (by decide)) (fun c => ?_)
    refine And.intro (fun c => absurd c (by decide)) (fun c => ?_)
    refine And.intro (fun c => ?_) (fun c => absurd rfl c)
    refine q_X5_its (w := 2) hi (by decide) ?_
    rw [if_neg (by decide), if_pos rfl] at h
    refine e_walk (stops := [60]) 20 ?_
    refine And.intro (fun c => ?_) (fun c => ?_)
    · rw [if_pos (show q_its (mI S 14 0) i 2 = 0 from c)] at h
      refine e_walk (stops := []) 20 ?_
      exact h
    · rw [if_neg (show ¬ q_its (mI S 14 0) i 2 = 0 from c)] at h
      refine q_X5_its (w := 4) hi (by decide) ?_
      refine e_walk (stops := []) 20 ?_
      exact h
  · refine e_walk (stops := [66]) 20 ?_
    refine And.intro (fun c => absurd c (by decide)) (fun c => ?_)
    refine And.intro (fun c => absurd c (by decide)) (fun c => ?_)
    refine And.intro (fun c => absurd c (by decide)) (fun c => ?_)
    refine And.intro (fun c => ?_) (fun c => absurd rfl c)
    refine q_X5_canBePlayed hi ?_
    rw [if_neg (by decide), if_neg (by decide), if_pos rfl] at h
    refine e_walk (stops := []) 20 ?_
    cases z : decide (q_its (mI S 14 0) i 1 < 5) with
    | true => rw [z] at h; exact And.intro (fun c => absurd c (by decide)) (fun c => h)
    | false => rw [z] at h; exact And.intro (fun c => h) (fun c => absurd rfl c)
def q_iOfE (ni : Nat) (x y : Int32) : Nat := cond (q_ix x ni) (cond (q_ix y 6) 0 2) 1
theorem q_iOfE_lt {ni : Nat} {x y : Int32} : q_iOfE ni x y < 65536 := by
  unfold q_iOfE
  cases q_ix x ni <;> cases q_ix y 6 <;> decide
theorem q_X5_instrumentOf {post : eQ} {np ni : Nat} {x y : Int32} (hM : q_M S v sv sn sp tk tx ln) (hv : q_ok0 v np ni) (h : q_tel S v sv sn sp tk tx ln post (q_iOfE ni x y) (q_iTold v x.toNatClampNeg y.toNatClampNeg)) : w_X5_instrumentOf [aR 13 0, aI x, aI y] S post := by
  have hv0 : q_ok0 (mI S 14 0) np ni := by rw [hM.eqv]; exact hv
  have hni := hv.2.1
  have fin : ∀ e : Nat, e = q_iOfE ni x y → e_Run tb_X5_instrumentOf post e_no 27 [some (aR 13 0), some (aI x), some (aI y)] [aI (nI e), aR 13 0] S 0 0 := by
    intro e he
    refine e_walk (stops := [30]) 1 ?_
    refine q_M_holds hM (by rw [he]; exact q_iOfE_lt) (fun S1 f1 m1 t1 => ?_)
    rw [he] at t1 ⊢
    have h := h S1 f1 m1 t1
    refine e_walk (stops := [39]) 20 ?_
    by_cases z : q_iOfE ni x y = 0
    · rw [decide_eq_true z] at h ⊢
      unfold q_iOfE at z
      cases z1 : q_ix x ni with
      | false => rw [z1] at z; exact absurd (show (1 : Nat) = 0 from z) (by decide)
      | true =>
        cases z2 : q_ix y 6 with
        | false => rw [z1, z2] at z; exact absurd (show (2 : Nat) = 0 from z) (by decide)
        | true =>
          obtain ⟨p, hp, rfl⟩ := q_ix_of (by omega) z1
          obtain ⟨w, hw, rfl⟩ := q_ix_of (by omega) z2
          rw [nI_clamp (by omega), nI_clamp (by omega)] at h
          refine And.intro (fun c => absurd c (by decide)) (fun c => ?_)
          refine q_X5_instrumentTold (by omega) hw ?_
          rw [m1.eqv]
          refine e_walk (stops := []) 20 ?_
          exact h
    · rw [decide_eq_false z] at h ⊢
      exact And.intro (fun c => h) (fun c => absurd rfl c)
  refine e_walk (stops := [6]) 20 ?_
  refine q_X5_isInstrument hv0 ?_
  refine e_walk (stops := [19, 27]) 20 ?_
  cases z1 : q_ix x ni with
  | false => exact And.intro (fun c => fin 1 (by unfold q_iOfE; rw [z1]; rfl)) (fun c => absurd rfl c)
  | true =>
    refine And.intro (fun c => absurd c (by decide)) (fun c => ?_)
    refine q_X5_in ?_
    rw [show (5 : Int32) = nI 6 - 1 by decide, q_hi (by decide), show (decide (¬ y < 0) && decide (y < nI 6)) = q_ix y 6 from rfl]
    refine e_walk (stops := [27]) 20 ?_
    cases z2 : q_ix y 6 with
    | false => exact And.intro (fun c => fin 2 (by unfold q_iOfE; rw [z1, z2]; rfl)) (fun c => absurd rfl c)
    | true => exact And.intro (fun c => absurd c (by decide)) (fun c => fin 0 (by unfold q_iOfE; rw [z1, z2]; rfl))
def q_noLoanE (np ni : Nat) (x y : Int32) : Nat := cond (q_ix x ni && q_ix y np) 0 1
theorem q_X5_noLoan {post : eQ} {np ni : Nat} {x y : Int32} (hM : q_M S v sv sn sp tk tx ln) (hv : q_ok0 v np ni) (h : q_tel S v sv sn sp tk tx ln post (q_noLoanE np ni x y) (nI (q_whyLoan v x.toNatClampNeg y.toNatClampNeg))) : w_X5_noLoan [aR 13 0, aI x, aI y] S post := by
  have hv0 : q_ok0 (mI S 14 0) np ni := by rw [hM.eqv]; exact hv
  have hni := hv.2.1
  have hnp := hv.1
  have no : q_noLoanE np ni x y = 1 → e_Run tb_X5_noLoan post e_no 22 [some (aR 13 0), some (aI x), some (aI y)] [aI (nI 1), aR 13 0] S 0 0 := by
    intro he
    refine e_walk (stops := [25]) 1 ?_
    refine q_M_holds hM (by decide) (fun S1 f1 m1 t1 => ?_)
    have h := h S1 f1 m1 (by rw [he]; exact t1)
    rw [he] at h
    refine e_walk (stops := []) 20 ?_
    exact And.intro (fun c => h) (fun c => absurd rfl c)
  refine e_walk (stops := [6]) 20 ?_
  refine q_X5_isInstrument hv0 ?_
  refine e_walk (stops := [14, 22]) 20 ?_
  cases z1 : q_ix x ni with
  | false => exact And.intro (fun c => no (by unfold q_noLoanE; rw [z1]; rfl)) (fun c => absurd rfl c)
  | true =>
    refine And.intro (fun c => absurd c (by decide)) (fun c => ?_)
    refine q_X5_isPupil hv0 ?_
    refine e_walk (stops := [22]) 20 ?_
    cases z2 : q_ix y np with
    | false => exact And.intro (fun c => no (by unfold q_noLoanE; rw [z1, z2]; rfl)) (fun c => absurd rfl c)
    | true =>
      have he : q_noLoanE np ni x y = 0 := by unfold q_noLoanE; rw [z1, z2]; rfl
      refine And.intro (fun c => absurd c (by decide)) (fun c => ?_)
      refine e_walk (stops := [25]) 1 ?_
      refine q_M_holds (e := 0) hM (by decide) (fun S1 f1 m1 t1 => ?_)
      have h := h S1 f1 m1 (by rw [he]; exact t1)
      rw [he] at h
      obtain ⟨i, hi, rfl⟩ := q_ix_of (by omega) z1
      obtain ⟨p, hp, rfl⟩ := q_ix_of (by omega) z2
      rw [nI_clamp (by omega), nI_clamp (by omega)] at h
      refine e_walk (stops := [34]) 20 ?_
      refine And.intro (fun c => absurd c (by decide)) (fun c => ?_)
      refine q_X5_reasonOfLoan (by omega) (by omega) ?_
      rw [m1.eqv]
      refine e_walk (stops := []) 20 ?_
      exact h
def q_noLessonE (np : Nat) (x y : Int32) : Nat := cond (q_ix x np && q_ix y 3) 0 1
theorem q_X5_noLesson {post : eQ} {np ni : Nat} {x y : Int32} (hM : q_M S v sv sn sp tk tx ln) (hv : q_ok0 v np ni) (h : q_tel S v sv sn sp tk tx ln post (q_noLessonE np x y) (nI (q_whyLesson v x.toNatClampNeg y.toNatClampNeg))) : w_X5_noLesson [aR 13 0, aI x, aI y] S post := by
  have hv0 : q_ok0 (mI S 14 0) np ni := by rw [hM.eqv]; exact hv
  have hnp := hv.1
  have no : q_noLessonE np x y = 1 → e_Run tb_X5_noLesson post e_no 21 [some (aR 13 0), some (aI x), some (aI y)] [aI (nI 1), aR 13 0] S 0 0 := by
    intro he
    refine e_walk (stops := [24]) 1 ?_
    refine q_M_holds hM (by decide) (fun S1 f1 m1 t1 => ?_)
    have h := h S1 f1 m1 (by rw [he]; exact t1)
    rw [he] at h
    refine e_walk (stops := []) 20 ?_
    exact And.intro (fun c => h) (fun c => absurd rfl c)
  refine e_walk (stops := [6]) 20 ?_
  refine q_X5_isPupil hv0 ?_
  refine e_walk (stops := [13, 21]) 20 ?_
  cases z1 : q_ix x np with
  | false => exact And.intro (fun c => no (by unfold q_noLessonE; rw [z1]; rfl)) (fun c => absurd rfl c)
  | true =>
    refine And.intro (fun c => absurd c (by decide)) (fun c => ?_)
    refine q_X5_isTeacher ?_
    refine e_walk (stops := [21]) 20 ?_
    cases z2 : q_ix y 3 with
    | false => exact And.intro (fun c => no (by unfold q_noLessonE; rw [z1, z2]; rfl)) (fun c => absurd rfl c)
    | true =>
      have he : q_noLessonE np x y = 0 := by unfold q_noLessonE; rw [z1, z2]; rfl
      refine And.intro (fun c => absurd c (by decide)) (fun c => ?_)
      refine e_walk (stops := [24]) 1 ?_
      refine q_M_holds (e := 0) hM (by decide) (fun S1 f1 m1 t1 => ?_)
      have h := h S1 f1 m1 (by rw [he]; exact t1)
      rw [he] at h
      obtain ⟨i, hi, rfl⟩ := q_ix_of (by omega) z1
      obtain ⟨p, hp, rfl⟩ := q_ix_of (by omega) z2
      rw [nI_clamp (by omega), nI_clamp (by omega)] at h
      refine e_walk (stops := [33]) 20 ?_
      refine And.intro (fun c => absurd c (by decide)) (fun c => ?_)
      refine q_X5_reasonOfLesson (np := np) (ni := ni) (by rw [m1.eqv]; exact hv) hi ?_
      rw [m1.eqv]
      refine e_walk (stops := []) 20 ?_
      exact h
def q_marE (x : Int32) : Nat := cond (q_ix x 4) 0 1
theorem q_X5_shortOf {post : eQ} {np ni : Nat} {x : Int32} (hM : q_M S v sv sn sp tk tx ln) (hv : q_ok0 v np ni) (h : q_tel S v sv sn sp tk tx ln post (q_marE x) (nI (q_sh v x.toNatClampNeg np 4))) : w_X5_shortOf [aR 13 0, aI x] S post := by
  refine e_walk (stops := [5]) 20 ?_
  refine q_X5_isMarch ?_
  refine e_walk (stops := [16]) 20 ?_
  cases z1 : q_ix x 4 with
  | false =>
    have he : q_marE x = 1 := by unfold q_marE; rw [z1]; rfl
    refine And.intro (fun c => ?_) (fun c => absurd rfl c)
    refine q_M_holds (e := 1) hM (by decide) (fun S1 f1 m1 t1 => ?_)
    have h := h S1 f1 m1 (by rw [he]; exact t1)
    rw [he] at h
    refine e_walk (stops := []) 20 ?_
    exact And.intro (fun c => h) (fun c => absurd rfl c)
  | true =>
    have he : q_marE x = 0 := by unfold q_marE; rw [z1]; rfl
    refine And.intro (fun c => absurd c (by decide)) (fun c => ?_)
    refine q_M_holds (e := 0) hM (by decide) (fun S1 f1 m1 t1 => ?_)
    obtain ⟨m, hm, rfl⟩ := q_ix_of (by omega) z1
    rw [nI_clamp (by omega)] at h
    refine e_walk (stops := [24]) 20 ?_
    refine And.intro (fun c => absurd c (by decide)) (fun c => ?_)
    refine q_X5_lineUp (np := np) (ni := ni) (by rw [m1.eqv]; exact hv) hm (fun S2 f2 h2 => ?_)
    have h := h S2 (f1.trans (q_fm.of1 f2)) (m1.of5 f2) (by rw [f2.1 13 0 (by decide), he]; exact t1)
    rw [he] at h
    rw [m1.eqv]
    refine e_walk (stops := []) 20 ?_
    exact h
end RefTells
section RefTells2
variable {S S2 : eM} {v v2 sp : qV} {sv : Nat → qV} {sn ln : Nat} {tk : Bool} {tx : Nat → Int32}
def q_lTold (v : qV) (k : Nat) : Int32 := if nI k < v 2 then 10 * v (136 + k) + q_its v (v (136 + k)).toNatClampNeg 2 - 1 else -1
theorem q_X5_loanTold {post : eQ} {nl k : Nat} (hk : k < 2 ^ 31) (hl : nl ≤ 10) (hl2 : mI S 14 0 2 = nI nl) (hlo : ∀ k, k < nl → ∃ i, i < 10 ∧ mI S 14 0 (136 + k) = nI i) (h : post (some (aI (q_lTold (mI S 14 0) k))) S) : w_X5_loanTold [aR 13 0, aI (nI k)] S post := by
  unfold q_lTold at h
  refine e_walk (stops := [7]) 20 ?_
  show e_Run tb_X5_loanTold post e_no 7 [some (aR 13 0), some (aI (nI k))] [aI (mI S 14 0 2), aI (nI k)] S 0 0
  by_cases z : k < nl
  · obtain ⟨i, hi, e⟩ := hlo k z
    have c1 : (nI 136 + nI k).toNatClampNeg = 136 + k := q_cl (nI_add 136 k) (by omega)
    rw [if_pos (by rw [hl2]; exact nI_lt z (by omega)), e, nI_clamp (by omega)] at h
    refine e_walk (stops := [22]) 20 ?_
    refine And.intro (fun c => absurd (show mI S 14 0 2 ≤ nI k from c) (by rw [hl2]; exact nI_ge z (by omega))) (fun c => ?_)
    refine And.intro (q_in (nI_add 136 k) (show 136 + k < 146 by omega) (by decide)) ?_
    show e_Run tb_X5_loanTold post e_no 22 [some (aR 13 0), some (aI (nI k))] [aI (mI S 14 0 (nI 136 + nI k).toNatClampNeg), aI 10] S 0 0
    rw [c1, e]
    refine e_walk (stops := [34]) 20 ?_
    refine And.intro (q_in (nI_add 136 k) (show 136 + k < 146 by omega) (by decide)) ?_
    show e_Run tb_X5_loanTold post e_no 34 [some (aR 13 0), some (aI (nI k))] [aI (mI S 14 0 (nI 136 + nI k).toNatClampNeg), aR 13 0, aI (10 * nI i)] S 0 0
    rw [c1, e]
    refine e_walk (stops := [38]) 20 ?_
    refine q_X5_its (w := 2) hi (by decide) ?_
    refine e_walk (stops := []) 20 ?_
    exact h
  · rw [if_neg (by rw [hl2]; exact nI_nlt (by omega) hk)] at h
    refine e_walk (stops := []) 20 ?_
    exact And.intro (fun c => h) (fun c => absurd (show mI S 14 0 2 ≤ nI k by rw [hl2]; exact nI_le (by omega) hk) c)
def q_loanE (x : Int32) : Nat := if x < 0 then 1 else 0
theorem q_X5_loan {post : eQ} {nl : Nat} {x : Int32} (hM : q_M S v sv sn sp tk tx ln) (hl : nl ≤ 10) (hl2 : v 2 = nI nl) (hlo : ∀ k, k < nl → ∃ i, i < 10 ∧ v (136 + k) = nI i) (h : q_tel S v sv sn sp tk tx ln post (q_loanE x) (q_lTold v x.toNatClampNeg)) : w_X5_loan [aR 13 0, aI x] S post := by
  unfold q_loanE at h
  refine e_walk (stops := [13]) 20 ?_
  refine And.intro (fun c => ?_) (fun c => ?_)
  · have hx : ¬ x < 0 := Int32.not_lt.mpr c
    rw [if_neg hx] at h
    obtain ⟨k, hk, rfl⟩ := nI_of hx
    rw [nI_clamp hk] at h
    refine q_M_holds (e := 0) hM (by decide) (fun S1 f1 m1 t1 => ?_)
    refine e_walk (stops := [21]) 20 ?_
    refine And.intro (fun c => absurd c (by decide)) (fun c => ?_)
    refine q_X5_loanTold hk hl (by rw [m1.eqv]; exact hl2) (by rw [m1.eqv]; exact hlo) ?_
    rw [m1.eqv]
    refine e_walk (stops := []) 20 ?_
    exact h S1 f1 m1 t1
  · rw [if_pos (Int32.not_le.mp c)] at h
    refine q_M_holds (e := 1) hM (by decide) (fun S1 f1 m1 t1 => ?_)
    refine e_walk (stops := []) 20 ?_
    exact And.intro (fun c => h S1 f1 m1 t1) (fun c => absurd rfl c)
def q_deb (v : qV) : Nat → Int32
  | 0 => 0
  | p + 1 => q_deb v p + q_of v p 3
theorem q_X5_debts {post : eQ} {np ni : Nat} (hv : q_ok0 (mI S 14 0) np ni) (h : post (some (aI (q_deb (mI S 14 0) np))) S) : w_X5_debts [aR 13 0] S post := by
  have hnp := hv.1
  have loop : ∀ d n, n + d = np → e_Run tb_X5_debts post e_no 4 [some (aR 13 0), some (aI (q_deb (mI S 14 0) n)), some (aI (nI n))] [] S 0 0 := by
    intro d
    induction d with
    | zero =>
      intro n hn
      obtain rfl : n = np := by omega
      refine e_walk (stops := []) 20 ?_
      exact And.intro (fun c => h) (fun c => absurd (show mI S 14 0 0 ≤ nI n by rw [hv.2.2.1]; exact nI_le (Nat.le_refl _) (by omega)) c)
    | succ d ih =>
      intro n hn
      have ih := ih (n + 1) (by omega)
      rw [q_deb, ← nI_1] at ih
      refine e_walk (stops := [21]) 20 ?_
      refine And.intro (fun c => absurd (show mI S 14 0 0 ≤ nI n from c) (by rw [hv.2.2.1]; exact nI_ge (by omega) (by omega))) (fun c => ?_)
      refine q_X5_of (w := 3) (by omega) (by decide) ?_
      refine e_walk (stops := [4]) 20 ?_
      exact ih
  refine e_walk (stops := [4]) 20 ?_
  exact loop np 0 (by omega)
def q_cTold (v : qV) (np sn w : Nat) : Int32 := if w = 4 then cond (q_sun v) 1 0 else if w = 8 then v 8 + 1000000 else if w = 9 then v 9 + v 10 - v 11 - v 12 + 1000000 else if w = 14 then q_deb v np else if w = 18 then nI sn else if 10 ≤ w ∧ w < 14 then v (w - 1) else if 15 ≤ w then v (w - 2) else v w
theorem q_X5_countTold {post : eQ} {np ni w : Nat} (hv : q_ok0 (mI S 14 0) np ni) (hs : mI S 13 0 2 = nI sn) (hw : w < 19) (h : post (some (aI (q_cTold (mI S 14 0) np sn w))) S) : w_X5_countTold [aR 13 0, aI (nI w)] S post := by
  unfold q_cTold at h
  refine e_walk (stops := [76, 89, 100, 135, 148, 153, 166, 171]) 5 ?_
  refine And.intro (fun c => ?_) (fun c4 => ?_)
  · obtain rfl : w = 4 := (nI_eq (by omega) (by decide)).mp c
    rw [if_pos rfl] at h
    refine e_walk (stops := [80]) 20 ?_
    refine q_X5_isSunday ?_
    refine e_walk (stops := []) 20 ?_
    cases z : q_sun (mI S 14 0) with
    | true => rw [z] at h; exact And.intro (fun c => absurd c (by decide)) (fun c => h)
    | false => rw [z] at h; exact And.intro (fun c => h) (fun c => absurd rfl c)
  have c4 : ¬ w = 4 := fun z => c4 (by rw [z]; rfl)
  rw [if_neg c4] at h
  have dflt : 5 ≤ w → w < 8 → e_Run tb_X5_countTold post e_no 171 [some (aR 13 0), some (aI (nI w))] [] S 0 0 := by
    intro h1 h2
    rw [if_neg (by omega), if_neg (by omega), if_neg (by omega), if_neg (by omega), if_neg (by omega), if_neg (by omega)] at h
    refine e_walk (stops := []) 20 ?_
    refine And.intro (q_in (n := w) rfl (show w < 146 by omega) (by decide)) ?_
    show post (some (aI (mI S 14 0 (nI w).toNatClampNeg))) S
    rw [nI_clamp (by omega)]
    exact h
  have at135 : 10 ≤ w → w < 14 → e_Run tb_X5_countTold post e_no 135 [some (aR 13 0), some (aI (nI w))] [] S 0 0 := by
    intro h1 h2
    rw [if_neg (by omega), if_neg (by omega), if_neg (by omega), if_neg (by omega), if_pos ⟨h1, h2⟩] at h
    have e : nI 9 + nI w - nI 10 = nI (w - 1) := by rw [nI_add]; rcases (show w = 10 ∨ w = 11 ∨ w = 12 ∨ w = 13 by omega) with rfl | rfl | rfl | rfl <;> decide
    refine e_walk (stops := []) 20 ?_
    refine And.intro (q_in e (show w - 1 < 146 by omega) (by decide)) ?_
    show post (some (aI (mI S 14 0 (nI 9 + nI w - nI 10).toNatClampNeg))) S
    rw [q_cl e (by omega)]
    exact h
  have at153 : 15 ≤ w → w < 18 → e_Run tb_X5_countTold post e_no 153 [some (aR 13 0), some (aI (nI w))] [] S 0 0 := by
    intro h1 h2
    rw [if_neg (by omega), if_neg (by omega), if_neg (by omega), if_neg (by omega), if_neg (by omega), if_pos h1] at h
    have e : nI 13 + nI w - nI 15 = nI (w - 2) := by rw [nI_add]; rcases (show w = 15 ∨ w = 16 ∨ w = 17 by omega) with rfl | rfl | rfl <;> decide
    refine e_walk (stops := []) 20 ?_
    refine And.intro (q_in e (show w - 2 < 146 by omega) (by decide)) ?_
    show post (some (aI (mI S 14 0 (nI 13 + nI w - nI 15).toNatClampNeg))) S
    rw [q_cl e (by omega)]
    exact h
  refine And.intro (fun c => dflt (by rw [(nI_eq (by omega) (by decide)).mp c]; decide) (by rw [(nI_eq (by omega) (by decide)).mp c]; decide)) (fun c5 => ?_)
  refine And.intro (fun c => dflt (by rw [(nI_eq (by omega) (by decide)).mp c]; decide) (by rw [(nI_eq (by omega) (by decide)).mp c]; decide)) (fun c6 => ?_)
  refine And.intro (fun c => dflt (by rw [(nI_eq (by omega) (by decide)).mp c]; decide) (by rw [(nI_eq (by omega) (by decide)).mp c]; decide)) (fun c7 => ?_)
  refine And.intro (fun c => ?_) (fun c8 => ?_)
  · obtain rfl : w = 8 := (nI_eq (by omega) (by decide)).mp c
    rw [if_pos rfl] at h
    refine e_walk (stops := []) 20 ?_
    exact h
  refine And.intro (fun c => ?_) (fun c9 => ?_)
  · obtain rfl : w = 9 := (nI_eq (by omega) (by decide)).mp c
    rw [if_neg (by decide), if_pos rfl] at h
    refine e_walk (stops := []) 30 ?_
    exact h
  refine And.intro (fun c => at135 (by rw [(nI_eq (by omega) (by decide)).mp c]; decide) (by rw [(nI_eq (by omega) (by decide)).mp c]; decide)) (fun c10 => ?_)
  refine And.intro (fun c => at135 (by rw [(nI_eq (by omega) (by decide)).mp c]; decide) (by rw [(nI_eq (by omega) (by decide)).mp c]; decide)) (fun c11 => ?_)
  refine And.intro (fun c => at135 (by rw [(nI_eq (by omega) (by decide)).mp c]; decide) (by rw [(nI_eq (by omega) (by decide)).mp c]; decide)) (fun c12 => ?_)
  refine And.intro (fun c => at135 (by rw [(nI_eq (by omega) (by decide)).mp c]; decide) (by rw [(nI_eq (by omega) (by decide)).mp c]; decide)) (fun c13 => ?_)
  refine And.intro (fun c => ?_) (fun c14 => ?_)
  · obtain rfl : w = 14 := (nI_eq (by omega) (by decide)).mp c
    rw [if_neg (by decide), if_neg (by decide), if_pos rfl] at h
    refine e_walk (stops := [152]) 20 ?_
    refine q_X5_debts hv ?_
    refine e_walk (stops := []) 20 ?_
    exact h
  refine And.intro (fun c => at153 (by rw [(nI_eq (by omega) (by decide)).mp c]; decide) (by rw [(nI_eq (by omega) (by decide)).mp c]; decide)) (fun c15 => ?_)
  refine And.intro (fun c => at153 (by rw [(nI_eq (by omega) (by decide)).mp c]; decide) (by rw [(nI_eq (by omega) (by decide)).mp c]; decide)) (fun c16 => ?_)
  refine And.intro (fun c => at153 (by rw [(nI_eq (by omega) (by decide)).mp c]; decide) (by rw [(nI_eq (by omega) (by decide)).mp c]; decide)) (fun c17 => ?_)
  refine And.intro (fun c => ?_) (fun c18 => ?_)
  · obtain rfl : w = 18 := (nI_eq (by omega) (by decide)).mp c
    rw [if_neg (by decide), if_neg (by decide), if_neg (by decide), if_pos rfl] at h
    refine e_walk (stops := []) 20 ?_
    show post (some (aI (mI S 13 0 2))) S
    rw [hs]
    exact h
  have k : ∀ n : Nat, n < 100 → ¬ nI w = nI n → ¬ w = n := fun n _ hn z => hn (by rw [z])
  have g5 := k 5 (by decide) c5
  have g6 := k 6 (by decide) c6
  have g7 := k 7 (by decide) c7
  have g8 := k 8 (by decide) c8
  have g9 := k 9 (by decide) c9
  have g10 := k 10 (by decide) c10
  have g11 := k 11 (by decide) c11
  have g12 := k 12 (by decide) c12
  have g13 := k 13 (by decide) c13
  have g14 := k 14 (by decide) c14
  have g15 := k 15 (by decide) c15
  have g16 := k 16 (by decide) c16
  have g17 := k 17 (by decide) c17
  have g18 := k 18 (by decide) c18
  rw [if_neg (by omega), if_neg (by omega), if_neg (by omega), if_neg (by omega), if_neg (by omega), if_neg (by omega)] at h
  refine e_walk (stops := []) 20 ?_
  refine And.intro (q_in (n := w) rfl (show w < 146 by omega) (by decide)) ?_
  show post (some (aI (mI S 14 0 (nI w).toNatClampNeg))) S
  rw [nI_clamp (by omega)]
  exact h
def q_countE (x : Int32) : Nat := cond (q_ix x 19) 0 1
theorem q_X5_count {post : eQ} {np ni : Nat} {x : Int32} (hM : q_M S v sv sn sp tk tx ln) (hv : q_ok0 v np ni) (h : q_tel S v sv sn sp tk tx ln post (q_countE x) (q_cTold v np sn x.toNatClampNeg)) : w_X5_count [aR 13 0, aI x] S post := by
  refine e_walk (stops := [8]) 20 ?_
  refine q_X5_in ?_
  rw [show (18 : Int32) = nI 19 - 1 by decide, q_hi (by decide), show (decide (¬ x < 0) && decide (x < nI 19)) = q_ix x 19 from rfl]
  refine e_walk (stops := [19]) 20 ?_
  cases z1 : q_ix x 19 with
  | false =>
    have he : q_countE x = 1 := by unfold q_countE; rw [z1]; rfl
    refine And.intro (fun c => ?_) (fun c => absurd rfl c)
    refine q_M_holds (e := 1) hM (by decide) (fun S1 f1 m1 t1 => ?_)
    have h := h S1 f1 m1 (by rw [he]; exact t1)
    rw [he] at h
    refine e_walk (stops := []) 20 ?_
    exact And.intro (fun c => h) (fun c => absurd rfl c)
  | true =>
    have he : q_countE x = 0 := by unfold q_countE; rw [z1]; rfl
    refine And.intro (fun c => absurd c (by decide)) (fun c => ?_)
    refine q_M_holds (e := 0) hM (by decide) (fun S1 f1 m1 t1 => ?_)
    have h := h S1 f1 m1 (by rw [he]; exact t1)
    rw [he] at h
    obtain ⟨w, hw, rfl⟩ := q_ix_of (by omega) z1
    rw [nI_clamp (by omega)] at h
    refine e_walk (stops := [27]) 20 ?_
    refine And.intro (fun c => absurd c (by decide)) (fun c => ?_)
    refine q_X5_countTold (np := np) (ni := ni) (sn := sn) (by rw [m1.eqv]; exact hv) m1.2.1 hw ?_
    rw [m1.eqv]
    refine e_walk (stops := []) 20 ?_
    exact h
end RefTells2
