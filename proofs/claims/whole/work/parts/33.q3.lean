/-! What walks come to, 3: what the reference tells. Own work. -/
section RefTells
variable {S S2 : eM} {v v2 sp : qV} {sv : Nat → qV} {sn ln : Nat} {tk : Bool} {tx : Nat → Int32}
/-- behind a call that only tells -/
def q_tel (S : eM) (v : qV) (sv : Nat → qV) (sn : Nat) (sp : qV) (tk : Bool) (tx : Nat → Int32) (ln : Nat) (post : eQ) (e : Nat) (r : Int32) : Prop :=
  ∀ S2, q_fm S S2 → q_M S2 v sv sn sp tk tx ln → mI S2 13 0 8 = nI e → post (some (aI (cond (decide (e = 0)) r 0))) S2
def q_pTold (v : qV) (p w : Nat) : Int32 := if w = 4 then q_of v p 4 - 1 else q_of v p w
theorem q_X5_pupilTold {post : eQ} {p w : Nat} (hp : p < 10) (hw : w < 7) (h : post (some (aI (q_pTold (mI S 14 0) p w))) S) : w_X5_pupilTold [aR 13 0, aI (nI p), aI (nI w)] S post := by
  unfold q_pTold at h
  refine e_walk (stops := [11, 22]) 20 ?_
  refine And.intro (fun c => ?_) (fun c => ?_)
  · have c : w = 4 := (nI_eq (by omega) (by decide)).mp c
    rw [if_pos c] at h
    refine q_X5_of (w := 4) hp (by decide) ?_
    refine e_walk (stops := []) 20 ?_
    exact h
  · have c : ¬ w = 4 := fun z => c (by rw [z]; rfl)
    rw [if_neg c] at h
    refine q_X5_of hp hw ?_
    refine e_walk (stops := []) 20 ?_
    exact h
def q_pOfE (np : Nat) (x y : Int32) : Nat := cond (q_ix x np) (cond (q_ix y 7) 0 2) 1
theorem q_pOfE_lt {np : Nat} {x y : Int32} : q_pOfE np x y < 65536 := by
  unfold q_pOfE
  cases q_ix x np <;> cases q_ix y 7 <;> decide
theorem q_X5_pupilOf {post : eQ} {np ni : Nat} {x y : Int32} (hM : q_M S v sv sn sp tk tx ln) (hv : q_ok0 v np ni) (h : q_tel S v sv sn sp tk tx ln post (q_pOfE np x y) (q_pTold v x.toNatClampNeg y.toNatClampNeg)) : w_X5_pupilOf [aR 13 0, aI x, aI y] S post := by
  have hv0 : q_ok0 (mI S 14 0) np ni := by rw [hM.eqv]; exact hv
  have hnp := hv.1
  have fin : ∀ e : Nat, e = q_pOfE np x y → e_Run tb_X5_pupilOf post e_no 28 [some (aR 13 0), some (aI x), some (aI y)] [aI (nI e), aR 13 0] S 0 0 := by
    intro e he
    refine e_walk (stops := [31]) 1 ?_
    refine q_M_holds hM (by rw [he]; exact q_pOfE_lt) (fun S1 f1 m1 t1 => ?_)
    rw [he] at t1 ⊢
    have h := h S1 f1 m1 t1
    refine e_walk (stops := [40]) 20 ?_
    by_cases z : q_pOfE np x y = 0
    · rw [decide_eq_true z] at h ⊢
      unfold q_pOfE at z
      cases z1 : q_ix x np with
      | false => rw [z1] at z; exact absurd (show (1 : Nat) = 0 from z) (by decide)
      | true =>
        cases z2 : q_ix y 7 with
        | false => rw [z1, z2] at z; exact absurd (show (2 : Nat) = 0 from z) (by decide)
        | true =>
          obtain ⟨p, hp, rfl⟩ := q_ix_of (by omega) z1
          obtain ⟨w, hw, rfl⟩ := q_ix_of (by omega) z2
          rw [nI_clamp (by omega), nI_clamp (by omega)] at h
          refine And.intro (fun c => absurd c (by decide)) (fun c => ?_)
          refine q_X5_pupilTold (by omega) hw ?_
          rw [m1.eqv]
          refine e_walk (stops := []) 20 ?_
          exact h
    · rw [decide_eq_false z] at h ⊢
      exact And.intro (fun c => h) (fun c => absurd rfl c)
  refine e_walk (stops := [6]) 20 ?_
  refine q_X5_isPupil hv0 ?_
  refine e_walk (stops := [20, 28]) 20 ?_
  cases z1 : q_ix x np with
  | false => exact And.intro (fun c => fin 1 (by unfold q_pOfE; rw [z1]; rfl)) (fun c => absurd rfl c)
  | true =>
    refine And.intro (fun c => absurd c (by decide)) (fun c => ?_)
    refine q_X5_in ?_
    rw [show (6 : Int32) = nI 7 - 1 by decide, q_hi (by decide), show (decide (¬ y < 0) && decide (y < nI 7)) = q_ix y 7 from rfl]
    refine e_walk (stops := [28]) 20 ?_
    cases z2 : q_ix y 7 with
    | false => exact And.intro (fun c => fin 2 (by unfold q_pOfE; rw [z1, z2]; rfl)) (fun c => absurd rfl c)
    | true => exact And.intro (fun c => absurd c (by decide)) (fun c => fin 0 (by unfold q_pOfE; rw [z1, z2]; rfl))
def q_iTold (v : qV) (i w : Nat) : Int32 := if w = 2 then q_its v i 2 - 1 else if w = 4 then (if q_its v i 2 = 0 then -1 else q_its v i 4) else if w = 5 then cond (decide (q_its v i 1 < 5)) 1 0 else q_its v i w
theorem q_X5_instrumentTold {post : eQ} {i w : Nat} (hi : i < 10) (hw : w < 6) (h : post (some (aI (q_iTold (mI S 14 0) i w))) S) : w_X5_instrumentTold [aR 13 0, aI (nI i), aI (nI w)] S post := by
  unfold q_iTold at h
  rcases (show w = 0 ∨ w = 1 ∨ w = 2 ∨ w = 3 ∨ w = 4 ∨ w = 5 by omega) with rfl | rfl | rfl | rfl | rfl | rfl
  · refine e_walk (stops := [81]) 20 ?_
    refine And.intro (fun c => absurd c (by decide)) (fun c => ?_)
    refine And.intro (fun c => absurd c (by decide)) (fun c => ?_)
    refine And.intro (fun c => absurd c (by decide)) (fun c => ?_)
    refine And.intro (fun c => absurd c (by decide)) (fun c => ?_)
    refine q_X5_its (w := 0) hi (by decide) ?_
    refine e_walk (stops := []) 20 ?_
    exact h
  · refine e_walk (stops := [81]) 20 ?_
    refine And.intro (fun c => absurd c (by decide)) (fun c => ?_)
    refine And.intro (fun c => absurd c (by decide)) (fun c => ?_)
    refine And.intro (fun c => absurd c (by decide)) (fun c => ?_)
    refine And.intro (fun c => absurd c (by decide)) (fun c => ?_)
    refine q_X5_its (w := 1) hi (by decide) ?_
    refine e_walk (stops := []) 20 ?_
    exact h
  · refine e_walk (stops := [38]) 20 ?_
    refine And.intro (fun c => ?_) (fun c => absurd rfl c)
    refine q_X5_its (w := 2) hi (by decide) ?_
    refine e_walk (stops := []) 20 ?_
    exact h
  · refine e_walk (stops := [81]) 20 ?_
    refine And.intro (fun c => absurd c (by decide)) (fun c => ?_)
    refine And.intro (fun c => ?_) (fun c => absurd rfl c)
    refine q_X5_its (w := 3) hi (by decide) ?_
    refine e_walk (stops := []) 20 ?_
    exact h
  · refine e_walk (stops := [47]) 20 ?_
    refine And.intro (fun c => absurd c (by decide)) (fun c => ?_)
    refine And.intro (fun c => absurd c (by decide)) (fun c => ?_)
    refine And.intro (fun c => ?_) (fun c => absurd rfl c)
    refine q_X5_its (w := 2) hi (by decide) ?_
    rw [if_neg (by decide), if_pos rfl] at h
    refine e_walk (stops := [60]) 20 ?_
    refine And.intro (fun c => ?_) (fun c => ?_)
    · rw [if_pos (show q_its (mI S 14 0) i 2 = 0 from c)] at h
      refine e_walk (stops := []) 20 ?_
      exact h
    · rw [if_neg (show ¬ q_its (mI S 14 0) i 2 = 0 from c)] at h
      refine q_X5_its (w := 4) hi (by decide) ?_
      refine e_walk (stops := []) 20 ?_
      exact h
  · refine e_walk (stops := [66]) 20 ?_
    refine And.intro (fun c => absurd c (by decide)) (fun c => ?_)
    refine And.intro (fun c => absurd c (by decide)) (fun c => ?_)
    refine And.intro (fun c => absurd c (by decide)) (fun c => ?_)
    refine And.intro (fun c => ?_) (fun c => absurd rfl c)
    refine q_X5_canBePlayed hi ?_
    rw [if_neg (by decide), if_neg (by decide), if_pos rfl] at h
    refine e_walk (stops := []) 20 ?_
    cases z : decide (q_its (mI S 14 0) i 1 < 5) with
    | true => rw [z] at h; exact And.intro (fun c => absurd c (by decide)) (fun c => h)
    | false => rw [z] at h; exact And.intro (fun c => h) (fun c => absurd rfl c)
def q_iOfE (ni : Nat) (x y : Int32) : Nat := cond (q_ix x ni) (cond (q_ix y 6) 0 2) 1
theorem q_iOfE_lt {ni : Nat} {x y : Int32} : q_iOfE ni x y < 65536 := by
  unfold q_iOfE
  cases q_ix x ni <;> cases q_ix y 6 <;> decide
theorem q_X5_instrumentOf {post : eQ} {np ni : Nat} {x y : Int32} (hM : q_M S v sv sn sp tk tx ln) (hv : q_ok0 v np ni) (h : q_tel S v sv sn sp tk tx ln post (q_iOfE ni x y) (q_iTold v x.toNatClampNeg y.toNatClampNeg)) : w_X5_instrumentOf [aR 13 0, aI x, aI y] S post := by
  have hv0 : q_ok0 (mI S 14 0) np ni := by rw [hM.eqv]; exact hv
  have hni := hv.2.1
  have fin : ∀ e : Nat, e = q_iOfE ni x y → e_Run tb_X5_instrumentOf post e_no 27 [some (aR 13 0), some (aI x), some (aI y)] [aI (nI e), aR 13 0] S 0 0 := by
    intro e he
    refine e_walk (stops := [30]) 1 ?_
    refine q_M_holds hM (by rw [he]; exact q_iOfE_lt) (fun S1 f1 m1 t1 => ?_)
    rw [he] at t1 ⊢
    have h := h S1 f1 m1 t1
    refine e_walk (stops := [39]) 20 ?_
    by_cases z : q_iOfE ni x y = 0
    · rw [decide_eq_true z] at h ⊢
      unfold q_iOfE at z
      cases z1 : q_ix x ni with
      | false => rw [z1] at z; exact absurd (show (1 : Nat) = 0 from z) (by decide)
      | true =>
        cases z2 : q_ix y 6 with
        | false => rw [z1, z2] at z; exact absurd (show (2 : Nat) = 0 from z) (by decide)
        | true =>
          obtain ⟨p, hp, rfl⟩ := q_ix_of (by omega) z1
          obtain ⟨w, hw, rfl⟩ := q_ix_of (by omega) z2
          rw [nI_clamp (by omega), nI_clamp (by omega)] at h
          refine And.intro (fun c => absurd c (by decide)) (fun c => ?_)
          refine q_X5_instrumentTold (by omega) hw ?_
          rw [m1.eqv]
          refine e_walk (stops := []) 20 ?_
          exact h
    · rw [decide_eq_false z] at h ⊢
      exact And.intro (fun c => h) (fun c => absurd rfl c)
  refine e_walk (stops := [6]) 20 ?_
  refine q_X5_isInstrument hv0 ?_
  refine e_walk (stops := [19, 27]) 20 ?_
  cases z1 : q_ix x ni with
  | false => exact And.intro (fun c => fin 1 (by unfold q_iOfE; rw [z1]; rfl)) (fun c => absurd rfl c)
  | true =>
    refine And.intro (fun c => absurd c (by decide)) (fun c => ?_)
    refine q_X5_in ?_
    rw [show (5 : Int32) = nI 6 - 1 by decide, q_hi (by decide), show (decide (¬ y < 0) && decide (y < nI 6)) = q_ix y 6 from rfl]
    refine e_walk (stops := [27]) 20 ?_
    cases z2 : q_ix y 6 with
    | false => exact And.intro (fun c => fin 2 (by unfold q_iOfE; rw [z1, z2]; rfl)) (fun c => absurd rfl c)
    | true => exact And.intro (fun c => absurd c (by decide)) (fun c => fin 0 (by unfold q_iOfE; rw [z1, z2]; rfl))
def q_noLoanE (np ni : Nat) (x y : Int32) : Nat := cond (q_ix x ni && q_ix y np) 0 1
theorem q_X5_noLoan {post : eQ} {np ni : Nat} {x y : Int32} (hM : q_M S v sv sn sp tk tx ln) (hv : q_ok0 v np ni) (h : q_tel S v sv sn sp tk tx ln post (q_noLoanE np ni x y) (nI (q_whyLoan v x.toNatClampNeg y.toNatClampNeg))) : w_X5_noLoan [aR 13 0, aI x, aI y] S post := by
  have hv0 : q_ok0 (mI S 14 0) np ni := by rw [hM.eqv]; exact hv
  have hni := hv.2.1
  have hnp := hv.1
  have no : q_noLoanE np ni x y = 1 → e_Run tb_X5_noLoan post e_no 22 [some (aR 13 0), some (aI x), some (aI y)] [aI (nI 1), aR 13 0] S 0 0 := by
    intro he
    refine e_walk (stops := [25]) 1 ?_
    refine q_M_holds hM (by decide) (fun S1 f1 m1 t1 => ?_)
    have h := h S1 f1 m1 (by rw [he]; exact t1)
    rw [he] at h
    refine e_walk (stops := []) 20 ?_
    exact And.intro (fun c => h) (fun c => absurd rfl c)
  refine e_walk (stops := [6]) 20 ?_
  refine q_X5_isInstrument hv0 ?_
  refine e_walk (stops := [14, 22]) 20 ?_
  cases z1 : q_ix x ni with
  | false => exact And.intro (fun c => no (by unfold q_noLoanE; rw [z1]; rfl)) (fun c => absurd rfl c)
  | true =>
    refine And.intro (fun c => absurd c (by decide)) (fun c => ?_)
    refine q_X5_isPupil hv0 ?_
    refine e_walk (stops := [22]) 20 ?_
    cases z2 : q_ix y np with
    | false => exact And.intro (fun c => no (by unfold q_noLoanE; rw [z1, z2]; rfl)) (fun c => absurd rfl c)
    | true =>
      have he : q_noLoanE np ni x y = 0 := by unfold q_noLoanE; rw [z1, z2]; rfl
      refine And.intro (fun c => absurd c (by decide)) (fun c => ?_)
      refine e_walk (stops := [25]) 1 ?_
      refine q_M_holds (e := 0) hM (by decide) (fun S1 f1 m1 t1 => ?_)
      have h := h S1 f1 m1 (by rw [he]; exact t1)
      rw [he] at h
      obtain ⟨i, hi, rfl⟩ := q_ix_of (by omega) z1
      obtain ⟨p, hp, rfl⟩ := q_ix_of (by omega) z2
      rw [nI_clamp (by omega), nI_clamp (by omega)] at h
      refine e_walk (stops := [34]) 20 ?_
      refine And.intro (fun c => absurd c (by decide)) (fun c => ?_)
      refine q_X5_reasonOfLoan (by omega) (by omega) ?_
      rw [m1.eqv]
      refine e_walk (stops := []) 20 ?_
      exact h
def q_noLessonE (np : Nat) (x y : Int32) : Nat := cond (q_ix x np && q_ix y 3) 0 1
theorem q_X5_noLesson {post : eQ} {np ni : Nat} {x y : Int32} (hM : q_M S v sv sn sp tk tx ln) (hv : q_ok0 v np ni) (h : q_tel S v sv sn sp tk tx ln post (q_noLessonE np x y) (nI (q_whyLesson v x.toNatClampNeg y.toNatClampNeg))) : w_X5_noLesson [aR 13 0, aI x, aI y] S post := by
  have hv0 : q_ok0 (mI S 14 0) np ni := by rw [hM.eqv]; exact hv
  have hnp := hv.1
  have no : q_noLessonE np x y = 1 → e_Run tb_X5_noLesson post e_no 21 [some (aR 13 0), some (aI x), some (aI y)] [aI (nI 1), aR 13 0] S 0 0 := by
    intro he
    refine e_walk (stops := [24]) 1 ?_
    refine q_M_holds hM (by decide) (fun S1 f1 m1 t1 => ?_)
    have h := h S1 f1 m1 (by rw [he]; exact t1)
    rw [he] at h
    refine e_walk (stops := []) 20 ?_
    exact And.intro (fun c => h) (fun c => absurd rfl c)
  refine e_walk (stops := [6]) 20 ?_
  refine q_X5_isPupil hv0 ?_
  refine e_walk (stops := [13, 21]) 20 ?_
  cases z1 : q_ix x np with
  | false => exact And.intro (fun c => no (by unfold q_noLessonE; rw [z1]; rfl)) (fun c => absurd rfl c)
  | true =>
    refine And.intro (fun c => absurd c (by decide)) (fun c => ?_)
    refine q_X5_isTeacher ?_
    refine e_walk (stops := [21]) 20 ?_
    cases z2 : q_ix y 3 with
    | false => exact And.intro (fun c => no (by unfold q_noLessonE; rw [z1, z2]; rfl)) (fun c => absurd rfl c)
    | true =>
      have he : q_noLessonE np x y = 0 := by unfold q_noLessonE; rw [z1, z2]; rfl
      refine And.intro (fun c => absurd c (by decide)) (fun c => ?_)
      refine e_walk (stops := [24]) 1 ?_
      refine q_M_holds (e := 0) hM (by decide) (fun S1 f1 m1 t1 => ?_)
      have h := h S1 f1 m1 (by rw [he]; exact t1)
      rw [he] at h
      obtain ⟨i, hi, rfl⟩ := q_ix_of (by omega) z1
      obtain ⟨p, hp, rfl⟩ := q_ix_of (by omega) z2
      rw [nI_clamp (by omega), nI_clamp (by omega)] at h
      refine e_walk (stops := [33]) 20 ?_
      refine And.intro (fun c => absurd c (by decide)) (fun c => ?_)
      refine q_X5_reasonOfLesson (np := np) (ni := ni) (by rw [m1.eqv]; exact hv) hi ?_
      rw [m1.eqv]
      refine e_walk (stops := []) 20 ?_
      exact h
def q_marE (x : Int32) : Nat := cond (q_ix x 4) 0 1
theorem q_X5_shortOf {post : eQ} {np ni : Nat} {x : Int32} (hM : q_M S v sv sn sp tk tx ln) (hv : q_ok0 v np ni) (h : q_tel S v sv sn sp tk tx ln post (q_marE x) (nI (q_sh v x.toNatClampNeg np 4))) : w_X5_shortOf [aR 13 0, aI x] S post := by
  refine e_walk (stops := [5]) 20 ?_
  refine q_X5_isMarch ?_
  refine e_walk (stops := [16]) 20 ?_
  cases z1 : q_ix x 4 with
  | false =>
    have he : q_marE x = 1 := by unfold q_marE; rw [z1]; rfl
    refine And.intro (fun c => ?_) (fun c => absurd rfl c)
    refine q_M_holds (e := 1) hM (by decide) (fun S1 f1 m1 t1 => ?_)
    have h := h S1 f1 m1 (by rw [he]; exact t1)
    rw [he] at h
    refine e_walk (stops := []) 20 ?_
    exact And.intro (fun c => h) (fun c => absurd rfl c)
  | true =>
    have he : q_marE x = 0 := by unfold q_marE; rw [z1]; rfl
    refine And.intro (fun c => absurd c (by decide)) (fun c => ?_)
    refine q_M_holds (e := 0) hM (by decide) (fun S1 f1 m1 t1 => ?_)
    obtain ⟨m, hm, rfl⟩ := q_ix_of (by omega) z1
    rw [nI_clamp (by omega)] at h
    refine e_walk (stops := [24]) 20 ?_
    refine And.intro (fun c => absurd c (by decide)) (fun c => ?_)
    refine q_X5_lineUp (np := np) (ni := ni) (by rw [m1.eqv]; exact hv) hm (fun S2 f2 h2 => ?_)
    have h := h S2 (f1.trans (q_fm.of1 f2)) (m1.of5 f2) (by rw [f2.1 13 0 (by decide), he]; exact t1)
    rw [he] at h
    rw [m1.eqv]
    refine e_walk (stops := []) 20 ?_
    exact h
end RefTells
section RefTells2
variable {S S2 : eM} {v v2 sp : qV} {sv : Nat → qV} {sn ln : Nat} {tk : Bool} {tx : Nat → Int32}
def q_lTold (v : qV) (k : Nat) : Int32 := if nI k < v 2 then 10 * v (136 + k) + q_its v (v (136 + k)).toNatClampNeg 2 - 1 else -1
theorem q_X5_loanTold {post : eQ} {nl k : Nat} (hk : k < 2 ^ 31) (hl : nl ≤ 10) (hl2 : mI S 14 0 2 = nI nl) (hlo : ∀ k, k < nl → ∃ i, i < 10 ∧ mI S 14 0 (136 + k) = nI i) (h : post (some (aI (q_lTold (mI S 14 0) k))) S) : w_X5_loanTold [aR 13 0, aI (nI k)] S post := by
  unfold q_lTold at h
  refine e_walk (stops := [7]) 20 ?_
  show e_Run tb_X5_loanTold post e_no 7 [some (aR 13 0), some (aI (nI k))] [aI (mI S 14 0 2), aI (nI k)] S 0 0
  by_cases z : k < nl
  · obtain ⟨i, hi, e⟩ := hlo k z
    have c1 : (nI 136 + nI k).toNatClampNeg = 136 + k := q_cl (nI_add 136 k) (by omega)
    rw [if_pos (by rw [hl2]; exact nI_lt z (by omega)), e, nI_clamp (by omega)] at h
    refine e_walk (stops := [22]) 20 ?_
    refine And.intro (fun c => absurd (show mI S 14 0 2 ≤ nI k from c) (by rw [hl2]; exact nI_ge z (by omega))) (fun c => ?_)
    refine And.intro (q_in (nI_add 136 k) (show 136 + k < 146 by omega) (by decide)) ?_
    show e_Run tb_X5_loanTold post e_no 22 [some (aR 13 0), some (aI (nI k))] [aI (mI S 14 0 (nI 136 + nI k).toNatClampNeg), aI 10] S 0 0
    rw [c1, e]
    refine e_walk (stops := [34]) 20 ?_
    refine And.intro (q_in (nI_add 136 k) (show 136 + k < 146 by omega) (by decide)) ?_
    show e_Run tb_X5_loanTold post e_no 34 [some (aR 13 0), some (aI (nI k))] [aI (mI S 14 0 (nI 136 + nI k).toNatClampNeg), aR 13 0, aI (10 * nI i)] S 0 0
    rw [c1, e]
    refine e_walk (stops := [38]) 20 ?_
    refine q_X5_its (w := 2) hi (by decide) ?_
    refine e_walk (stops := []) 20 ?_
    exact h
  · rw [if_neg (by rw [hl2]; exact nI_nlt (by omega) hk)] at h
    refine e_walk (stops := []) 20 ?_
    exact And.intro (fun c => h) (fun c => absurd (show mI S 14 0 2 ≤ nI k by rw [hl2]; exact nI_le (by omega) hk) c)
def q_loanE (x : Int32) : Nat := if x < 0 then 1 else 0
theorem q_X5_loan {post : eQ} {nl : Nat} {x : Int32} (hM : q_M S v sv sn sp tk tx ln) (hl : nl ≤ 10) (hl2 : v 2 = nI nl) (hlo : ∀ k, k < nl → ∃ i, i < 10 ∧ v (136 + k) = nI i) (h : q_tel S v sv sn sp tk tx ln post (q_loanE x) (q_lTold v x.toNatClampNeg)) : w_X5_loan [aR 13 0, aI x] S post := by
  unfold q_loanE at h
  refine e_walk (stops := [13]) 20 ?_
  refine And.intro (fun c => ?_) (fun c => ?_)
  · have hx : ¬ x < 0 := Int32.not_lt.mpr c
    rw [if_neg hx] at h
    obtain ⟨k, hk, rfl⟩ := nI_of hx
    rw [nI_clamp hk] at h
    refine q_M_holds (e := 0) hM (by decide) (fun S1 f1 m1 t1 => ?_)
    refine e_walk (stops := [21]) 20 ?_
    refine And.intro (fun c => absurd c (by decide)) (fun c => ?_)
    refine q_X5_loanTold hk hl (by rw [m1.eqv]; exact hl2) (by rw [m1.eqv]; exact hlo) ?_
    rw [m1.eqv]
    refine e_walk (stops := []) 20 ?_
    exact h S1 f1 m1 t1
  · rw [if_pos (Int32.not_le.mp c)] at h
    refine q_M_holds (e := 1) hM (by decide) (fun S1 f1 m1 t1 => ?_)
    refine e_walk (stops := []) 20 ?_
    exact And.intro (fun c => h S1 f1 m1 t1) (fun c => absurd rfl c)
def q_deb (v : qV) : Nat → Int32
  | 0 => 0
  | p + 1 => q_deb v p + q_of v p 3
theorem q_X5_debts {post : eQ} {np ni : Nat} (hv : q_ok0 (mI S 14 0) np ni) (h : post (some (aI (q_deb (mI S 14 0) np))) S) : w_X5_debts [aR 13 0] S post := by
  have hnp := hv.1
  have loop : ∀ d n, n + d = np → e_Run tb_X5_debts post e_no 4 [some (aR 13 0), some (aI (q_deb (mI S 14 0) n)), some (aI (nI n))] [] S 0 0 := by
    intro d
    induction d with
    | zero =>
      intro n hn
      obtain rfl : n = np := by omega
      refine e_walk (stops := []) 20 ?_
      exact And.intro (fun c => h) (fun c => absurd (show mI S 14 0 0 ≤ nI n by rw [hv.2.2.1]; exact nI_le (Nat.le_refl _) (by omega)) c)
    | succ d ih =>
      intro n hn
      have ih := ih (n + 1) (by omega)
      rw [q_deb, ← nI_1] at ih
      refine e_walk (stops := [21]) 20 ?_
      refine And.intro (fun c => absurd (show mI S 14 0 0 ≤ nI n from c) (by rw [hv.2.2.1]; exact nI_ge (by omega) (by omega))) (fun c => ?_)
      refine q_X5_of (w := 3) (by omega) (by decide) ?_
      refine e_walk (stops := [4]) 20 ?_
      exact ih
  refine e_walk (stops := [4]) 20 ?_
  exact loop np 0 (by omega)
def q_cTold (v : qV) (np sn w : Nat) : Int32 := if w = 4 then cond (q_sun v) 1 0 else if w = 8 then v 8 + 1000000 else if w = 9 then v 9 + v 10 - v 11 - v 12 + 1000000 else if w = 14 then q_deb v np else if w = 18 then nI sn else if 10 ≤ w ∧ w < 14 then v (w - 1) else if 15 ≤ w then v (w - 2) else v w
theorem q_X5_countTold {post : eQ} {np ni w : Nat} (hv : q_ok0 (mI S 14 0) np ni) (hs : mI S 13 0 2 = nI sn) (hw : w < 19) (h : post (some (aI (q_cTold (mI S 14 0) np sn w))) S) : w_X5_countTold [aR 13 0, aI (nI w)] S post := by
  unfold q_cTold at h
  refine e_walk (stops := [76, 89, 100, 135, 148, 153, 166, 171]) 5 ?_
  refine And.intro (fun c => ?_) (fun c4 => ?_)
  · obtain rfl : w = 4 := (nI_eq (by omega) (by decide)).mp c
    rw [if_pos rfl] at h
    refine e_walk (stops := [80]) 20 ?_
    refine q_X5_isSunday ?_
    refine e_walk (stops := []) 20 ?_
    cases z : q_sun (mI S 14 0) with
    | true => rw [z] at h; exact And.intro (fun c => absurd c (by decide)) (fun c => h)
    | false => rw [z] at h; exact And.intro (fun c => h) (fun c => absurd rfl c)
  have c4 : ¬ w = 4 := fun z => c4 (by rw [z]; rfl)
  rw [if_neg c4] at h
  have dflt : 5 ≤ w → w < 8 → e_Run tb_X5_countTold post e_no 171 [some (aR 13 0), some (aI (nI w))] [] S 0 0 := by
    intro h1 h2
    rw [if_neg (by omega), if_neg (by omega), if_neg (by omega), if_neg (by omega), if_neg (by omega), if_neg (by omega)] at h
    refine e_walk (stops := []) 20 ?_
    refine And.intro (q_in (n := w) rfl (show w < 146 by omega) (by decide)) ?_
    show post (some (aI (mI S 14 0 (nI w).toNatClampNeg))) S
    rw [nI_clamp (by omega)]
    exact h
  have at135 : 10 ≤ w → w < 14 → e_Run tb_X5_countTold post e_no 135 [some (aR 13 0), some (aI (nI w))] [] S 0 0 := by
    intro h1 h2
    rw [if_neg (by omega), if_neg (by omega), if_neg (by omega), if_neg (by omega), if_pos ⟨h1, h2⟩] at h
    have e : nI 9 + nI w - nI 10 = nI (w - 1) := by rw [nI_add]; rcases (show w = 10 ∨ w = 11 ∨ w = 12 ∨ w = 13 by omega) with rfl | rfl | rfl | rfl <;> decide
    refine e_walk (stops := []) 20 ?_
    refine And.intro (q_in e (show w - 1 < 146 by omega) (by decide)) ?_
    show post (some (aI (mI S 14 0 (nI 9 + nI w - nI 10).toNatClampNeg))) S
    rw [q_cl e (by omega)]
    exact h
  have at153 : 15 ≤ w → w < 18 → e_Run tb_X5_countTold post e_no 153 [some (aR 13 0), some (aI (nI w))] [] S 0 0 := by
    intro h1 h2
    rw [if_neg (by omega), if_neg (by omega), if_neg (by omega), if_neg (by omega), if_neg (by omega), if_pos h1] at h
    have e : nI 13 + nI w - nI 15 = nI (w - 2) := by rw [nI_add]; rcases (show w = 15 ∨ w = 16 ∨ w = 17 by omega) with rfl | rfl | rfl <;> decide
    refine e_walk (stops := []) 20 ?_
    refine And.intro (q_in e (show w - 2 < 146 by omega) (by decide)) ?_
    show post (some (aI (mI S 14 0 (nI 13 + nI w - nI 15).toNatClampNeg))) S
    rw [q_cl e (by omega)]
    exact h
  refine And.intro (fun c => dflt (by rw [(nI_eq (by omega) (by decide)).mp c]; decide) (by rw [(nI_eq (by omega) (by decide)).mp c]; decide)) (fun c5 => ?_)
  refine And.intro (fun c => dflt (by rw [(nI_eq (by omega) (by decide)).mp c]; decide) (by rw [(nI_eq (by omega) (by decide)).mp c]; decide)) (fun c6 => ?_)
  refine And.intro (fun c => dflt (by rw [(nI_eq (by omega) (by decide)).mp c]; decide) (by rw [(nI_eq (by omega) (by decide)).mp c]; decide)) (fun c7 => ?_)
  refine And.intro (fun c => ?_) (fun c8 => ?_)
  · obtain rfl : w = 8 := (nI_eq (by omega) (by decide)).mp c
    rw [if_pos rfl] at h
    refine e_walk (stops := []) 20 ?_
    exact h
  refine And.intro (fun c => ?_) (fun c9 => ?_)
  · obtain rfl : w = 9 := (nI_eq (by omega) (by decide)).mp c
    rw [if_neg (by decide), if_pos rfl] at h
    refine e_walk (stops := []) 30 ?_
    exact h
  refine And.intro (fun c => at135 (by rw [(nI_eq (by omega) (by decide)).mp c]; decide) (by rw [(nI_eq (by omega) (by decide)).mp c]; decide)) (fun c10 => ?_)
  refine And.intro (fun c => at135 (by rw [(nI_eq (by omega) (by decide)).mp c]; decide) (by rw [(nI_eq (by omega) (by decide)).mp c]; decide)) (fun c11 => ?_)
  refine And.intro (fun c => at135 (by rw [(nI_eq (by omega) (by decide)).mp c]; decide) (by rw [(nI_eq (by omega) (by decide)).mp c]; decide)) (fun c12 => ?_)
  refine And.intro (fun c => at135 (by rw [(nI_eq (by omega) (by decide)).mp c]; decide) (by rw [(nI_eq (by omega) (by decide)).mp c]; decide)) (fun c13 => ?_)
  refine And.intro (fun c => ?_) (fun c14 => ?_)
  · obtain rfl : w = 14 := (nI_eq (by omega) (by decide)).mp c
    rw [if_neg (by decide), if_neg (by decide), if_pos rfl] at h
    refine e_walk (stops := [152]) 20 ?_
    refine q_X5_debts hv ?_
    refine e_walk (stops := []) 20 ?_
    exact h
  refine And.intro (fun c => at153 (by rw [(nI_eq (by omega) (by decide)).mp c]; decide) (by rw [(nI_eq (by omega) (by decide)).mp c]; decide)) (fun c15 => ?_)
  refine And.intro (fun c => at153 (by rw [(nI_eq (by omega) (by decide)).mp c]; decide) (by rw [(nI_eq (by omega) (by decide)).mp c]; decide)) (fun c16 => ?_)
  refine And.intro (fun c => at153 (by rw [(nI_eq (by omega) (by decide)).mp c]; decide) (by rw [(nI_eq (by omega) (by decide)).mp c]; decide)) (fun c17 => ?_)
  refine And.intro (fun c => ?_) (fun c18 => ?_)
  · obtain rfl : w = 18 := (nI_eq (by omega) (by decide)).mp c
    rw [if_neg (by decide), if_neg (by decide), if_neg (by decide), if_pos rfl] at h
    refine e_walk (stops := []) 20 ?_
    show post (some (aI (mI S 13 0 2))) S
    rw [hs]
    exact h
  have k : ∀ n : Nat, n < 100 → ¬ nI w = nI n → ¬ w = n := fun n _ hn z => hn (by rw [z])
  have g5 := k 5 (by decide) c5
  have g6 := k 6 (by decide) c6
  have g7 := k 7 (by decide) c7
  have g8 := k 8 (by decide) c8
  have g9 := k 9 (by decide) c9
  have g10 := k 10 (by decide) c10
  have g11 := k 11 (by decide) c11
  have g12 := k 12 (by decide) c12
  have g13 := k 13 (by decide) c13
  have g14 := k 14 (by decide) c14
  have g15 := k 15 (by decide) c15
  have g16 := k 16 (by decide) c16
  have g17 := k 17 (by decide) c17
  have g18 := k 18 (by decide) c18
  rw [if_neg (by omega), if_neg (by omega), if_neg (by omega), if_neg (by omega), if_neg (by omega), if_neg (by omega)] at h
  refine e_walk (stops := []) 20 ?_
  refine And.intro (q_in (n := w) rfl (show w < 146 by omega) (by decide)) ?_
  show post (some (aI (mI S 14 0 (nI w).toNatClampNeg))) S
  rw [nI_clamp (by omega)]
  exact h
def q_countE (x : Int32) : Nat := cond (q_ix x 19) 0 1
theorem q_X5_count {post : eQ} {np ni : Nat} {x : Int32} (hM : q_M S v sv sn sp tk tx ln) (hv : q_ok0 v np ni) (h : q_tel S v sv sn sp tk tx ln post (q_countE x) (q_cTold v np sn x.toNatClampNeg)) : w_X5_count [aR 13 0, aI x] S post := by
  refine e_walk (stops := [8]) 20 ?_
  refine q_X5_in ?_
  rw [show (18 : Int32) = nI 19 - 1 by decide, q_hi (by decide), show (decide (¬ x < 0) && decide (x < nI 19)) = q_ix x 19 from rfl]
  refine e_walk (stops := [19]) 20 ?_
  cases z1 : q_ix x 19 with
  | false =>
    have he : q_countE x = 1 := by unfold q_countE; rw [z1]; rfl
    refine And.intro (fun c => ?_) (fun c => absurd rfl c)
    refine q_M_holds (e := 1) hM (by decide) (fun S1 f1 m1 t1 => ?_)
    have h := h S1 f1 m1 (by rw [he]; exact t1)
    rw [he] at h
    refine e_walk (stops := []) 20 ?_
    exact And.intro (fun c => h) (fun c => absurd rfl c)
  | true =>
    have he : q_countE x = 0 := by unfold q_countE; rw [z1]; rfl
    refine And.intro (fun c => absurd c (by decide)) (fun c => ?_)
    refine q_M_holds (e := 0) hM (by decide) (fun S1 f1 m1 t1 => ?_)
    have h := h S1 f1 m1 (by rw [he]; exact t1)
    rw [he] at h
    obtain ⟨w, hw, rfl⟩ := q_ix_of (by omega) z1
    rw [nI_clamp (by omega)] at h
    refine e_walk (stops := [27]) 20 ?_
    refine And.intro (fun c => absurd c (by decide)) (fun c => ?_)
    refine q_X5_countTold (np := np) (ni := ni) (sn := sn) (by rw [m1.eqv]; exact hv) m1.2.1 hw ?_
    rw [m1.eqv]
    refine e_walk (stops := []) 20 ?_
    exact h
end RefTells2
section RefTells3
variable {S S2 : eM} {v v2 sp : qV} {sv : Nat → qV} {sn ln : Nat} {tk : Bool} {tx : Nat → Int32}
def q_partTold (v : qV) (m np k w : Nat) : Int32 := if w = 3 then q_pl v m np k else if w = 0 then nI (q_kf m k) else if w = 1 then nI (4 + 2 * k) else q_lf m k
theorem q_X5_partTold {post : eQ} {np ni m k w : Nat} (hv : q_ok0 (mI S 14 0) np ni) (hm : m < 4) (hk : k < 4) (hw : w < 4) (h : ∀ S2, q_fr1 5 S S2 → post (some (aI (q_partTold (mI S 14 0) m np k w))) S2) : w_X5_partTold [aR 13 0, aI (nI m), aI (nI k), aI (nI w)] S post := by
  unfold q_partTold at h
  refine e_walk (stops := [10, 18]) 20 ?_
  refine And.intro (fun c => ?_) (fun c => ?_)
  · obtain rfl : w = 3 := (nI_eq (by omega) (by decide)).mp c
    refine q_X5_lineUp hv hm (fun S2 f2 h2 => ?_)
    have h := h S2 f2
    rw [if_pos rfl, ← h2 k hk] at h
    refine e_walk (stops := []) 20 ?_
    refine And.intro (q_in (n := k) rfl (show k < 4 from hk) (by decide)) ?_
    show post (some (aI (mI S2 14 5 (nI k).toNatClampNeg))) S2
    rw [nI_clamp (by omega)]
    exact h
  · have c3 : ¬ w = 3 := fun z => c (by rw [z]; rfl)
    have h := h S q_fr1.rf
    rw [if_neg c3] at h
    refine e_walk (stops := [27, 30]) 20 ?_
    refine And.intro (fun c => ?_) (fun c => ?_)
    · obtain rfl : w = 0 := (nI_eq (by omega) (by decide)).mp c
      refine q_X5_kindFor hm hk ?_
      refine e_walk (stops := []) 20 ?_
      exact h
    · have c0 : ¬ w = 0 := fun z => c (by rw [z]; rfl)
      rw [if_neg c0] at h
      refine e_walk (stops := [39, 47]) 20 ?_
      refine And.intro (fun c => ?_) (fun c => ?_)
      · obtain rfl : w = 1 := (nI_eq (by omega) (by decide)).mp c
        refine q_X5_breathFor ?_
        refine e_walk (stops := []) 20 ?_
        exact h
      · have c1 : ¬ w = 1 := fun z => c (by rw [z]; rfl)
        rw [if_neg c1] at h
        refine q_X5_lipsFor ?_
        refine e_walk (stops := []) 20 ?_
        exact h
def q_partE (x y z : Int32) : Nat := cond (q_ix x 4 && q_ix y 4) (cond (q_ix z 4) 0 2) 1
theorem q_partE_lt {x y z : Int32} : q_partE x y z < 65536 := by
  unfold q_partE
  cases q_ix x 4 <;> cases q_ix y 4 <;> cases q_ix z 4 <;> decide
theorem q_X5_part {post : eQ} {np ni : Nat} {x y w : Int32} (hM : q_M S v sv sn sp tk tx ln) (hv : q_ok0 v np ni) (h : q_tel S v sv sn sp tk tx ln post (q_partE x y w) (q_partTold v x.toNatClampNeg np y.toNatClampNeg w.toNatClampNeg)) : w_X5_part [aR 13 0, aI x, aI y, aI w] S post := by
  have fin : ∀ e : Nat, e = q_partE x y w → e_Run tb_X5_part post e_no 35 [some (aR 13 0), some (aI x), some (aI y), some (aI w)] [aI (nI e), aR 13 0] S 0 0 := by
    intro e he
    refine e_walk (stops := [38]) 1 ?_
    refine q_M_holds hM (by rw [he]; exact q_partE_lt) (fun S1 f1 m1 t1 => ?_)
    rw [he] at t1 ⊢
    refine e_walk (stops := [48]) 20 ?_
    by_cases z : q_partE x y w = 0
    · have z' := z
      rw [decide_eq_true z]
      unfold q_partE at z
      cases z1 : q_ix x 4 with
      | false => rw [z1] at z; exact absurd (show (1 : Nat) = 0 from z) (by decide)
      | true =>
        cases z2 : q_ix y 4 with
        | false => rw [z1, z2] at z; exact absurd (show (1 : Nat) = 0 from z) (by decide)
        | true =>
          cases z3 : q_ix w 4 with
          | false => rw [z1, z2, z3] at z; exact absurd (show (2 : Nat) = 0 from z) (by decide)
          | true =>
            obtain ⟨m, hm, rfl⟩ := q_ix_of (by omega) z1
            obtain ⟨k, hk, rfl⟩ := q_ix_of (by omega) z2
            obtain ⟨u, hu, rfl⟩ := q_ix_of (by omega) z3
            rw [nI_clamp (by omega), nI_clamp (by omega), nI_clamp (by omega)] at h
            refine And.intro (fun c => absurd c (by decide)) (fun c => ?_)
            refine q_X5_partTold (np := np) (ni := ni) (by rw [m1.eqv]; exact hv) hm hk hu (fun S2 f2 => ?_)
            have h := h S2 (f1.trans (q_fm.of1 f2)) (m1.of5 f2) (by rw [f2.1 13 0 (by decide)]; exact t1)
            rw [decide_eq_true z'] at h
            rw [m1.eqv]
            refine e_walk (stops := []) 20 ?_
            exact h
    · have h := h S1 f1 m1 t1
      rw [decide_eq_false z] at h ⊢
      exact And.intro (fun c => h) (fun c => absurd rfl c)
  refine e_walk (stops := [5]) 20 ?_
  refine q_X5_isMarch ?_
  refine e_walk (stops := [14, 35]) 20 ?_
  cases z1 : q_ix x 4 with
  | false => exact And.intro (fun c => fin 1 (by unfold q_partE; rw [z1]; rfl)) (fun c => absurd rfl c)
  | true =>
    refine And.intro (fun c => absurd c (by decide)) (fun c => ?_)
    refine q_X5_in ?_
    rw [show (3 : Int32) = nI 4 - 1 by decide, q_hi (by decide), show (decide (¬ y < 0) && decide (y < nI 4)) = q_ix y 4 from rfl]
    refine e_walk (stops := [27, 35]) 20 ?_
    cases z2 : q_ix y 4 with
    | false => exact And.intro (fun c => fin 1 (by unfold q_partE; rw [z1, z2]; rfl)) (fun c => absurd rfl c)
    | true =>
      refine And.intro (fun c => absurd c (by decide)) (fun c => ?_)
      refine q_X5_in ?_
      rw [show (3 : Int32) = nI 4 - 1 by decide, q_hi (by decide), show (decide (¬ w < 0) && decide (w < nI 4)) = q_ix w 4 from rfl]
      refine e_walk (stops := [35]) 20 ?_
      cases z3 : q_ix w 4 with
      | false => exact And.intro (fun c => fin 2 (by unfold q_partE; rw [z1, z2, z3]; rfl)) (fun c => absurd rfl c)
      | true => exact And.intro (fun c => absurd c (by decide)) (fun c => fin 0 (by unfold q_partE; rw [z1, z2, z3]; rfl))
/-- what a march would bring; the best one of the first n -/
def q_pm (v : qV) (np m : Nat) : Int32 := q_pence v (q_sh v m np 4)
def q_bs (v : qV) (np : Nat) : Nat → Nat
  | 0 => 0
  | n + 1 => if q_pm v np (q_bs v np n) < q_pm v np n then n else q_bs v np n
theorem q_bs_lt (v : qV) (np : Nat) : ∀ n, 0 < n → q_bs v np n < n
  | 0, h => absurd h (by decide)
  | 1, _ => by
    rw [q_bs]
    split
    · exact Nat.one_pos
    · exact (by decide : 0 < 1)
  | n + 2, _ => by
    have := q_bs_lt v np (n + 1) (by omega)
    rw [q_bs]
    split <;> omega
theorem q_X5_bestTold {post : eQ} {np ni : Nat} (hv : q_ok0 (mI S 14 0) np ni) (h : ∀ S2, q_fr1 5 S S2 → post (some (aI (nI (q_bs (mI S 14 0) np 4)))) S2) : w_X5_bestTold [aR 13 0] S post := by
  have loop : ∀ d n, n + d = 4 → 0 < n → ∀ S1, q_fr1 5 S S1 → e_Run tb_X5_bestTold post e_no 4 [some (aR 13 0), some (aI (nI (q_bs (mI S 14 0) np n))), some (aI (nI n))] [] S1 0 0 := by
    intro d
    induction d with
    | zero =>
      intro n hn h0 S1 f1
      obtain rfl : n = 4 := by omega
      refine e_walk (stops := []) 20 ?_
      exact And.intro (fun c => h S1 f1) (fun c => absurd (show (4 : Int32) ≤ nI 4 by decide) c)
    | succ d ih =>
      intro n hn h0 S1 f1
      have hb := q_bs_lt (mI S 14 0) np n h0
      have e1 : mI S1 14 0 = mI S 14 0 := f1.1 14 0 (by decide)
      refine e_walk (stops := [14]) 20 ?_
      refine And.intro (fun c => absurd c (nI_ge (a := n) (b := 4) (by omega) (by decide))) (fun c => ?_)
      refine q_X5_penceOf (np := np) (ni := ni) (by rw [e1]; exact hv) (by omega) (fun S2 f2 _ => ?_)
      rw [e1]
      have e2 : mI S2 14 0 = mI S 14 0 := by rw [f2.1 14 0 (by decide), e1]
      refine e_walk (stops := [19]) 20 ?_
      refine q_X5_penceOf (np := np) (ni := ni) (by rw [e2]; exact hv) (by omega) (fun S3 f3 _ => ?_)
      rw [e2]
      have f4 : q_fr1 5 S S3 := ⟨fun a b hab => (f3.1 a b hab).trans ((f2.1 a b hab).trans (f1.1 a b hab)), f3.2.1.trans (f2.2.1.trans f1.2.1), f3.2.2.trans (f2.2.2.trans f1.2.2)⟩
      have ih := ih (n + 1) (by omega) (by omega) S3 f4
      rw [q_bs, ← nI_1 n] at ih
      refine e_walk (stops := [4]) 20 ?_
      refine And.intro (fun c => ?_) (fun c => ?_)
      · rw [if_neg (show ¬ q_pm (mI S 14 0) np (q_bs (mI S 14 0) np n) < q_pm (mI S 14 0) np n from Int32.not_lt.mpr c)] at ih
        exact ih
      · rw [if_pos (show q_pm (mI S 14 0) np (q_bs (mI S 14 0) np n) < q_pm (mI S 14 0) np n from Int32.not_le.mp c)] at ih
        exact ih
  refine e_walk (stops := [4]) 20 ?_
  have e : q_bs (mI S 14 0) np 1 = 0 := by have := q_bs_lt (mI S 14 0) np 1 (by decide); omega
  have z := loop 3 1 (by decide) (by decide) S q_fr1.rf
  rw [e] at z
  exact z
theorem q_X5_bestMarch {post : eQ} {np ni : Nat} (hM : q_M S v sv sn sp tk tx ln) (hv : q_ok0 v np ni) (h : ∀ S2, q_fm S S2 → q_M S2 v sv sn sp tk tx ln → mI S2 13 0 8 = 0 → post (some (aI (nI (q_bs v np 4)))) S2) : w_X5_bestMarch [aR 13 0] S post := by
  have m1 : q_M (sI S 13 0 8 0) v sv sn sp tk tx ln := hM.fld (by decide) (by decide) (by decide)
  refine e_walk (stops := [9]) 20 ?_
  refine q_X5_bestTold (np := np) (ni := ni) (by rw [m1.eqv]; exact hv) (fun S2 f2 => ?_)
  rw [m1.eqv]
  refine e_walk (stops := []) 20 ?_
  exact h S2 (q_fm.fld.trans (q_fm.of1 f2)) (m1.of5 f2) (by rw [f2.1 13 0 (by decide), q_sI, if_pos rfl])
end RefTells3
section RefMost
variable {S S2 : eM} {v v2 sp : qV} {sv : Nat → qV} {sn ln : Nat} {tk : Bool} {tx : Nat → Int32}
theorem q_or (a b : Nat) : nI a ||| nI b = nI (a ||| b) :=
  Int32.toBitVec_inj.1 (show BitVec.ofNat 32 a ||| BitVec.ofNat 32 b = BitVec.ofNat 32 (a ||| b) from BitVec.eq_of_getLsbD_eq (fun i hi => by simp [hi]))
theorem q_and (a b : Nat) : nI a &&& nI b = nI (a &&& b) :=
  Int32.toBitVec_inj.1 (show BitVec.ofNat 32 a &&& BitVec.ofNat 32 b = BitVec.ofNat 32 (a &&& b) from BitVec.eq_of_getLsbD_eq (fun i hi => by simp [hi]))
theorem q_bit {n : Nat} (h : n < 10) : (1 : Int32) <<< (nI n &&& 31) = nI (2 ^ n) := by
  rcases (show n = 0 ∨ n = 1 ∨ n = 2 ∨ n = 3 ∨ n = 4 ∨ n = 5 ∨ n = 6 ∨ n = 7 ∨ n = 8 ∨ n = 9 by omega) with rfl | rfl | rfl | rfl | rfl | rfl | rfl | rfl | rfl | rfl <;> decide
/-- the pupils who could play a part, as bits -/
def q_ply (v : qV) (m k : Nat) : Nat → Nat
  | 0 => 0
  | n + 1 => q_ply v m k n ||| cond (q_could v n m k) (2 ^ n) 0
theorem q_ply_lt (v : qV) (m k : Nat) : ∀ n, q_ply v m k n < 2 ^ n
  | 0 => Nat.one_pos
  | n + 1 => by
    rw [q_ply]
    refine Nat.or_lt_two_pow (Nat.lt_trans (q_ply_lt v m k n) (Nat.pow_lt_pow_right (by decide) (Nat.lt_succ_self n))) ?_
    cases q_could v n m k with
    | true => exact Nat.pow_lt_pow_right (by decide) (Nat.lt_succ_self n)
    | false => exact Nat.two_pow_pos _
theorem q_X5_playersOf {post : eQ} {np ni m k : Nat} (hv : q_ok0 (mI S 14 0) np ni) (hm : m < 4) (hk : k < 4) (h : post (some (aI (nI (q_ply (mI S 14 0) m k np)))) S) : w_X5_playersOf [aR 13 0, aI (nI m), aI (nI k)] S post := by
  have hnp := hv.1
  have loop : ∀ d n, n + d = np → e_Run tb_X5_playersOf post e_no 5 [some (aR 13 0), some (aI (nI m)), some (aI (nI k)), some (aI (nI (q_ply (mI S 14 0) m k n))), some (aI (nI n))] [] S 0 0 := by
    intro d
    induction d with
    | zero =>
      intro n hn
      obtain rfl : n = np := by omega
      refine e_walk (stops := []) 20 ?_
      exact And.intro (fun c => h) (fun c => absurd (show mI S 14 0 0 ≤ nI n by rw [hv.2.2.1]; exact nI_le (Nat.le_refl _) (by omega)) c)
    | succ d ih =>
      intro n hn
      have ih := ih (n + 1) (by omega)
      rw [q_ply, ← nI_1] at ih
      refine e_walk (stops := [25]) 20 ?_
      refine And.intro (fun c => absurd (show mI S 14 0 0 ≤ nI n from c) (by rw [hv.2.2.1]; exact nI_ge (by omega) (by omega))) (fun c => ?_)
      refine q_X5_couldPlay (p := n) hv (by omega) hm hk ?_
      refine e_walk (stops := [5]) 20 ?_
      cases z : q_could (mI S 14 0) n m k with
      | false =>
        rw [z] at ih
        refine And.intro (fun c => ?_) (fun c => absurd rfl c)
        show e_Run tb_X5_playersOf post e_no 5 [some (aR 13 0), some (aI (nI m)), some (aI (nI k)), some (aI (nI (q_ply (mI S 14 0) m k n) ||| nI 0)), some (aI (nI n + 1))] [] S 0 0
        rw [q_or]
        exact ih
      | true =>
        rw [z] at ih
        refine And.intro (fun c => absurd c (by decide)) (fun c => ?_)
        show e_Run tb_X5_playersOf post e_no 5 [some (aR 13 0), some (aI (nI m)), some (aI (nI k)), some (aI (nI (q_ply (mI S 14 0) m k n) ||| (1 : Int32) <<< (nI n &&& 31))), some (aI (nI n + 1))] [] S 0 0
        rw [q_bit (by omega), q_or]
        exact ih
  refine e_walk (stops := [5]) 20 ?_
  exact loop np 0 (by omega)
/-- how many ones -/
def q_on : Nat → Nat → Nat
  | 0, _ => 0
  | f + 1, a => if a = 0 then 0 else q_on f (a &&& (a - 1)) + 1
theorem q_X5_ones {post : eQ} {a : Nat} (ha : a < 65536) (h : post (some (aI (nI (q_on a a)))) S) : w_X5_ones [aI (nI a)] S post := by
  have loop : ∀ f b n, b ≤ f → f ≤ a → post (some (aI (nI (n + q_on f b)))) S → e_Run tb_X5_ones post e_no 4 [some (aI (nI a)), some (aI (nI n)), some (aI (nI b))] [] S 0 0 := by
    intro f
    induction f with
    | zero =>
      intro b n hb hf h
      obtain rfl : b = 0 := by omega
      refine e_walk (stops := []) 20 ?_
      exact And.intro (fun c => h) (fun c => absurd rfl c)
    | succ f ih =>
      intro b n hb hf h
      rw [q_on] at h
      refine e_walk (stops := [4]) 20 ?_
      refine And.intro (fun c => ?_) (fun c => ?_)
      · have c : b = 0 := (nI_eq (by omega) (by decide)).mp c
        rw [if_pos c] at h
        exact h
      · have c : ¬ b = 0 := fun z => c (by rw [z]; rfl)
        rw [if_neg c] at h
        show e_Run tb_X5_ones post e_no 4 [some (aI (nI a)), some (aI (nI n + 1)), some (aI (nI b &&& (nI b - 1)))] [] S 0 0
        rw [q_pred (by omega), q_and, nI_1]
        have hle : b &&& (b - 1) ≤ b - 1 := Nat.and_le_right
        exact ih _ _ (by omega) (by omega) (by rw [Nat.add_right_comm]; exact h)
  refine e_walk (stops := [4]) 20 ?_
  exact loop a a 0 (Nat.le_refl _) (Nat.le_refl _) (by rw [Nat.zero_add]; exact h)
end RefMost
section RefMost2
variable {S S2 : eM} {v v2 sp : qV} {sv : Nat → qV} {sn ln : Nat} {tk : Bool} {tx : Nat → Int32}
theorem q_sbit {t k : Nat} (ht : t < 16) (hk : k < 4) : decide (nI t >>> (nI k &&& 31) &&& 1 = 1) = t.testBit k := by
  have key : ∀ t, t < 16 → ∀ k, k < 4 → decide (nI t >>> (nI k &&& 31) &&& 1 = 1) = t.testBit k := by decide +kernel
  exact key t ht k hk
/-- the pupils who could play a part of the set t, of its first k -/
def q_pls (v : qV) (m np t : Nat) : Nat → Nat
  | 0 => 0
  | k + 1 => q_pls v m np t k ||| cond (t.testBit k) (q_ply v m k np) 0
theorem q_pls_lt {v : qV} {m np t : Nat} (hnp : np ≤ 10) : ∀ k, q_pls v m np t k < 1024
  | 0 => by
    show 0 < 1024
    decide
  | k + 1 => by
    rw [q_pls]
    refine Nat.or_lt_two_pow (n := 10) (q_pls_lt hnp k) ?_
    cases t.testBit k with
    | true => exact Nat.lt_of_lt_of_le (q_ply_lt v m k np) (Nat.pow_le_pow_right (by decide) hnp)
    | false => exact Nat.two_pow_pos _
def q_mn (v : qV) (m np t : Nat) : Int32 := 4 - nI (q_on t t) + nI (q_on (q_pls v m np t 4) (q_pls v m np t 4))
/-- the least over the sets of parts below t -/
def q_mos (v : qV) (m np : Nat) : Nat → Int32
  | 0 => 4
  | t + 1 => if q_mn v m np t < q_mos v m np t then q_mn v m np t else q_mos v m np t
theorem q_X5_mostTold {post : eQ} {np ni m : Nat} (hv : q_ok0 (mI S 14 0) np ni) (hm : m < 4) (h : post (some (aI (q_mos (mI S 14 0) m np 16))) S) : w_X5_mostTold [aR 13 0, aI (nI m)] S post := by
  have hnp := hv.1
  have outer : ∀ d t, t + d = 16 → ∀ l4 l5, e_Run tb_X5_mostTold post e_no 4 [some (aR 13 0), some (aI (nI m)), some (aI (q_mos (mI S 14 0) m np t)), some (aI (nI t)), l4, l5] [] S 0 0 := by
    intro d
    induction d with
    | zero =>
      intro t ht l4 l5
      obtain rfl : t = 16 := by omega
      refine e_walk (stops := []) 20 ?_
      exact And.intro (fun c => h) (fun c => absurd (show (16 : Int32) ≤ nI 16 by decide) c)
    | succ d ihd =>
      intro t ht l4 l5
      have ht16 : t < 16 := by omega
      have ihd := ihd (t + 1) (by omega)
      rw [q_mos, ← nI_1 t] at ihd
      have inner : ∀ e k, k + e = 4 → e_Run tb_X5_mostTold post e_no 16 [some (aR 13 0), some (aI (nI m)), some (aI (q_mos (mI S 14 0) m np t)), some (aI (nI t)), some (aI (nI (q_pls (mI S 14 0) m np t k))), some (aI (nI k))] [] S 0 0 := by
        intro e
        induction e with
        | zero =>
          intro k hk
          obtain rfl : k = 4 := by omega
          have hlt := q_pls_lt (v := mI S 14 0) (m := m) (t := t) hnp 4
          have emn : q_mn (mI S 14 0) m np t = 4 - nI (q_on t t) + nI (q_on (q_pls (mI S 14 0) m np t 4) (q_pls (mI S 14 0) m np t 4)) := rfl
          refine e_walk (stops := [59]) 20 ?_
          refine And.intro (fun c => ?_) (fun c => absurd (show (4 : Int32) ≤ nI 4 by decide) c)
          refine q_X5_ones (by omega) ?_
          refine e_walk (stops := [65]) 20 ?_
          refine q_X5_ones (by omega) ?_
          refine e_walk (stops := [68]) 20 ?_
          show e_Run tb_X5_mostTold post e_no 68 [some (aR 13 0), some (aI (nI m)), some (aI (q_mos (mI S 14 0) m np t)), some (aI (nI t)), some (aI (nI (q_pls (mI S 14 0) m np t 4))), some (aI (4 - nI (q_on t t) + nI (q_on (q_pls (mI S 14 0) m np t 4) (q_pls (mI S 14 0) m np t 4))))] [] S 0 0
          rw [← emn]
          refine e_walk (stops := [4]) 20 ?_
          refine And.intro (fun c => ?_) (fun c => ?_)
          · rw [if_neg (show ¬ q_mn (mI S 14 0) m np t < q_mos (mI S 14 0) m np t from Int32.not_lt.mpr c)] at ihd
            exact ihd _ _
          · rw [if_pos (show q_mn (mI S 14 0) m np t < q_mos (mI S 14 0) m np t from Int32.not_le.mp c)] at ihd
            exact ihd _ _
        | succ e ihe =>
          intro k hk
          have hk4 : k < 4 := by omega
          have ihe := ihe (k + 1) (by omega)
          rw [q_pls, ← q_or, ← nI_1 k, ← q_sbit ht16 hk4] at ihe
          refine e_walk (stops := [16, 41]) 30 ?_
          refine And.intro (fun c => absurd c (nI_ge (a := k) (b := 4) (by omega) (by decide))) (fun c => ?_)
          refine And.intro (fun c => ?_) (fun c => ?_)
          · rw [decide_eq_true (show nI t >>> (nI k &&& 31) &&& 1 = 1 from c)] at ihe
            refine q_X5_playersOf hv hm hk4 ?_
            refine e_walk (stops := [16]) 20 ?_
            exact ihe
          · rw [decide_eq_false (show ¬ nI t >>> (nI k &&& 31) &&& 1 = 1 from c)] at ihe
            exact ihe
      refine e_walk (stops := [16]) 20 ?_
      refine And.intro (fun c => absurd c (nI_ge (a := t) (b := 16) (by omega) (by decide))) (fun c => ?_)
      exact inner 4 0 rfl
  refine e_walk (stops := [4]) 20 ?_
  exact outer 16 0 rfl _ _
theorem q_X5_most {post : eQ} {np ni : Nat} {x : Int32} (hM : q_M S v sv sn sp tk tx ln) (hv : q_ok0 v np ni) (h : q_tel S v sv sn sp tk tx ln post (q_marE x) (q_mos v x.toNatClampNeg np 16)) : w_X5_most [aR 13 0, aI x] S post := by
  refine e_walk (stops := [5]) 20 ?_
  refine q_X5_isMarch ?_
  refine e_walk (stops := [16]) 20 ?_
  cases z1 : q_ix x 4 with
  | false =>
    have he : q_marE x = 1 := by unfold q_marE; rw [z1]; rfl
    refine And.intro (fun c => ?_) (fun c => absurd rfl c)
    refine q_M_holds (e := 1) hM (by decide) (fun S1 f1 m1 t1 => ?_)
    have h := h S1 f1 m1 (by rw [he]; exact t1)
    rw [he] at h
    refine e_walk (stops := []) 20 ?_
    exact And.intro (fun c => h) (fun c => absurd rfl c)
  | true =>
    have he : q_marE x = 0 := by unfold q_marE; rw [z1]; rfl
    refine And.intro (fun c => absurd c (by decide)) (fun c => ?_)
    refine q_M_holds (e := 0) hM (by decide) (fun S1 f1 m1 t1 => ?_)
    have h := h S1 f1 m1 (by rw [he]; exact t1)
    rw [he] at h
    obtain ⟨m, hm, rfl⟩ := q_ix_of (by omega) z1
    rw [nI_clamp (by omega)] at h
    refine e_walk (stops := [24]) 20 ?_
    refine And.intro (fun c => absurd c (by decide)) (fun c => ?_)
    refine q_X5_mostTold (np := np) (ni := ni) (by rw [m1.eqv]; exact hv) hm ?_
    rw [m1.eqv]
    generalize q_mos v m np 16 = r at h ⊢
    refine e_walk (stops := []) 20 ?_
    exact h
end RefMost2
section RefHelps
variable {S S2 : eM} {v v2 sp : qV} {sv : Nat → qV} {sn ln : Nat} {tk : Bool} {tx : Nat → Int32}
theorem q_sh_le (v : qV) (m np : Nat) : ∀ k, q_sh v m np k ≤ k
  | 0 => Nat.le_refl _
  | k + 1 => by
    rw [q_sh]
    have := q_sh_le v m np k
    cases decide (q_pl v m np k = -1) with
    | true => exact Nat.succ_le_succ this
    | false => exact Nat.le_succ_of_le this
theorem q_teach_ok {np ni p t : Nat} (hv : q_ok0 v np ni) : q_ok0 (q_teach v p t) np ni := by
  unfold q_teach
  exact (((((hv.upd (by omega) (fun _ _ => by omega)).upd (by omega) (fun _ _ => by omega)).upd (by omega) (fun _ _ => by omega)).upd (by decide) (fun _ _ => by omega)).upd (by decide) (fun _ _ => by omega)).upd (by decide) (fun _ _ => by omega)
def q_fr3 (S S2 : eM) : Prop := (∀ k i, ¬ (k = 14 ∧ (i = 0 ∨ i = 3 ∨ i = 5)) → mI S2 k i = mI S k i) ∧ mR S2 = mR S ∧ mL S2 = mL S
theorem q_fr3.of1 {S1 : eM} {i0 : Nat} (h : q_fr3 S S1) (k : q_fr1 i0 S1 S2) (hi : i0 = 0 ∨ i0 = 3 ∨ i0 = 5) : q_fr3 S S2 := ⟨fun a b hab => (k.1 a b (fun z => hab ⟨z.1, by rw [z.2]; exact hi⟩)).trans (h.1 a b hab), k.2.1.trans h.2.1, k.2.2.trans h.2.2⟩
def q_hp (v : qV) (m np t p : Nat) : Bool := decide (q_whyLesson v p t = 0) && decide (q_sh (q_teach v p t) m np 4 < q_sh v m np 4)
/-- the first one, of d from p on, whom a lesson helps -/
def q_hl (v : qV) (m np t : Nat) : Nat → Nat → Int32
  | 0, _ => -1
  | d + 1, p => cond (q_hp v m np t p) (nI p) (q_hl v m np t d (p + 1))
theorem q_X5_helpsTold {post : eQ} {np ni m t : Nat} (hv : q_ok0 (mI S 14 0) np ni) (hm : m < 4) (ht : t < 3) (h : ∀ S2, q_fr3 S S2 → mI S2 14 0 = mI S 14 0 → post (some (aI (q_hl (mI S 14 0) m np t np 0))) S2) : w_X5_helpsTold [aR 13 0, aI (nI m), aI (nI t)] S post := by
  have hnp := hv.1
  have f0 : q_fr3 S S := ⟨fun _ _ _ => rfl, rfl, rfl⟩
  refine e_walk (stops := [5]) 20 ?_
  refine q_X5_lineUp hv hm (fun S1 f1 _ => ?_)
  have e1 : mI S1 14 0 = mI S 14 0 := f1.1 14 0 (by decide)
  refine e_walk (stops := [19]) 20 ?_
  refine q_X5_copy (x := 0) (y := 3) (f := 0) (t := 0) (by decide) (by decide) (by decide) (by decide) (by decide) (fun S2 g1 g2 g3 g4 => ?_)
  have hs4 := q_sh_le (mI S 14 0) m np 4
  generalize hsh : q_sh (mI S 14 0) m np 4 = ms at *
  have loop : ∀ d p, p + d = np → ∀ S3, q_fr3 S S3 → mI S3 14 0 = mI S 14 0 → (∀ j, j < 146 → mI S3 14 3 j = mI S 14 0 j) → (∀ S4, q_fr3 S S4 → mI S4 14 0 = mI S 14 0 → post (some (aI (q_hl (mI S 14 0) m np t d p))) S4) → ∀ l5, e_Run tb_X5_helpsTold post e_no 22 [some (aR 13 0), some (aI (nI m)), some (aI (nI t)), some (aI (nI ms)), some (aI (nI p)), l5] [] S3 0 0 := by
    intro d
    induction d with
    | zero =>
      intro p hp S3 f3 e3 b3 h l5
      obtain rfl : p = np := by omega
      refine e_walk (stops := []) 20 ?_
      exact And.intro (fun c => h S3 f3 e3) (fun c => absurd (show mI S3 14 0 0 ≤ nI p by rw [e3, hv.2.2.1]; exact nI_le (Nat.le_refl _) (by omega)) c)
    | succ d ih =>
      intro p hp S3 f3 e3 b3 h l5
      have hp10 : p < 10 := by omega
      rw [q_hl] at h
      unfold q_hp at h
      rw [hsh] at h
      refine e_walk (stops := [40]) 20 ?_
      refine And.intro (fun c => absurd (show mI S3 14 0 0 ≤ nI p from c) (by rw [e3, hv.2.2.1]; exact nI_ge (by omega) (by omega))) (fun c => ?_)
      refine q_X5_reasonOfLesson (p := p) (t := t) (np := np) (ni := ni) (by rw [e3]; exact hv) (by omega) ?_
      rw [e3]
      have hwl := q_whyLesson_le (mI S 14 0) p t
      refine e_walk (stops := [50, 88]) 20 ?_
      refine And.intro (fun c => ?_) (fun c => ?_)
      · have c : q_whyLesson (mI S 14 0) p t = 0 := (nI_eq (by omega) (by decide)).mp c
        rw [decide_eq_true c, Bool.true_and] at h
        refine q_X5_doTeach (p := p) (t := t) (np := np) (ni := ni) (by rw [e3]; exact hv) (by omega) ht (by rw [e3]; exact q_plays_pos (q_whyLesson_0 c)) (fun S4 f4 e4 => ?_)
        rw [e3] at e4
        refine e_walk (stops := [56]) 20 ?_
        refine q_X5_lineUp (np := np) (ni := ni) (by rw [e4]; exact q_teach_ok hv) hm (fun S5 f5 _ => ?_)
        rw [e4]
        have hs5 := q_sh_le (q_teach (mI S 14 0) p t) m np 4
        have e5 : mI S5 14 0 = q_teach (mI S 14 0) p t := by rw [f5.1 14 0 (by decide), e4]
        have b5 : mI S5 14 3 = mI S3 14 3 := by rw [f5.1 14 3 (by decide), f4.1 14 3 (by decide)]
        have f5b : q_fr3 S S5 := (f3.of1 f4 (Or.inl rfl)).of1 f5 (Or.inr (Or.inr rfl))
        have cont : ∀ x, e_Run tb_X5_helpsTold post e_no 65 [some (aR 13 0), some (aI (nI m)), some (aI (nI t)), some (aI (nI ms)), some (aI (nI p)), l5] [aI x] S5 0 0 → e_Run tb_X5_helpsTold post e_no 65 [some (aR 13 0), some (aI (nI m)), some (aI (nI t)), some (aI (nI ms)), some (aI (nI p)), l5] [aI x] S5 0 0 := fun _ z => z
        have back : ∀ x, (∀ S6, q_fr3 S S6 → mI S6 14 0 = mI S 14 0 → (∀ j, j < 146 → mI S6 14 3 j = mI S 14 0 j) → e_Run tb_X5_helpsTold post e_no 80 [some (aR 13 0), some (aI (nI m)), some (aI (nI t)), some (aI (nI ms)), some (aI (nI p)), some (aI x)] [] S6 0 0) → e_Run tb_X5_helpsTold post e_no 65 [some (aR 13 0), some (aI (nI m)), some (aI (nI t)), some (aI (nI ms)), some (aI (nI p)), l5] [aI x] S5 0 0 := by
          intro x hk
          refine e_walk (stops := [80]) 20 ?_
          refine q_X5_copy (x := 3) (y := 0) (f := 0) (t := 0) (by decide) (by decide) (by decide) (by decide) (by decide) (fun S6 k1 k2 k3 k4 => ?_)
          have f6 : q_fr1 0 S5 S6 := ⟨k1, k2, k3⟩
          refine hk S6 (f5b.of1 f6 (Or.inl rfl)) ?_ (fun j hj => by rw [k1 14 3 (by decide), b5]; exact b3 j hj)
          funext j
          rw [k4 j]
          by_cases hj : j < 146
          · rw [if_pos (by omega), Nat.zero_add, Nat.sub_zero, b5]
            exact b3 j hj
          · rw [if_neg (by omega), e5, q_teach, q_un (by omega), q_un (by omega), q_un (by omega), q_un (by omega), q_un (by omega), q_un (by omega)]
        refine e_walk (stops := [65]) 20 ?_
        refine And.intro (fun c2 => ?_) (fun c2 => ?_)
        · have c2 : ¬ q_sh (q_teach (mI S 14 0) p t) m np 4 < ms := Nat.not_lt.mpr ((nI_leI (by omega) (by omega)).mp c2)
          rw [decide_eq_false c2] at h
          refine back 0 (fun S6 f6 e6 b6 => ?_)
          refine e_walk (stops := [22]) 20 ?_
          refine And.intro (fun c => ?_) (fun c => absurd rfl c)
          show e_Run tb_X5_helpsTold post e_no 22 [some (aR 13 0), some (aI (nI m)), some (aI (nI t)), some (aI (nI ms)), some (aI (nI p + 1)), some (aI 0)] [] S6 0 0
          rw [nI_1]
          exact ih (p + 1) (by omega) S6 f6 e6 b6 h _
        · have c2 : q_sh (q_teach (mI S 14 0) p t) m np 4 < ms := Decidable.byContradiction fun z => c2 ((nI_leI (by omega) (by omega)).mpr (Nat.not_lt.mp z))
          rw [decide_eq_true c2] at h
          refine back 1 (fun S6 f6 e6 b6 => ?_)
          refine e_walk (stops := []) 20 ?_
          exact And.intro (fun c => absurd c (by decide)) (fun c => h S6 f6 e6)
      · have c : ¬ q_whyLesson (mI S 14 0) p t = 0 := fun z => c (by rw [z]; rfl)
        rw [decide_eq_false c, Bool.false_and] at h
        refine e_walk (stops := [22]) 20 ?_
        show e_Run tb_X5_helpsTold post e_no 22 [some (aR 13 0), some (aI (nI m)), some (aI (nI t)), some (aI (nI ms)), some (aI (nI p + 1)), l5] [] S3 0 0
        rw [nI_1]
        exact ih (p + 1) (by omega) S3 f3 e3 b3 h _
  refine e_walk (stops := [22]) 20 ?_
  have f2 : q_fr1 3 S1 S2 := ⟨g1, g2, g3⟩
  refine loop np 0 (by omega) S2 ((f0.of1 f1 (Or.inr (Or.inr rfl))).of1 f2 (Or.inr (Or.inl rfl))) (by rw [g1 14 0 (by decide), e1]) (fun j hj => ?_) h _
  rw [g4 j, if_pos (by omega), e1, Nat.zero_add, Nat.sub_zero]
end RefHelps
section RefHelps2
variable {S S2 : eM} {v v2 sp : qV} {sv : Nat → qV} {sn ln : Nat} {tk : Bool} {tx : Nat → Int32}
theorem q_fm.of3 (h : q_fr3 S S2) : q_fm S S2 := ⟨fun k i _ h2 => h.1 k i (fun z => h2 z.1), h.2.1, fun _ _ _ => by rw [h.2.2]⟩
theorem q_M.of3 (h : q_M S v sv sn sp tk tx ln) (f : q_fr3 S S2) (e2 : mI S2 14 0 = mI S 14 0) : q_M S2 v sv sn sp tk tx ln := by
  obtain ⟨a, b, c, d, e, g, i⟩ := h
  exact ⟨⟨e2.trans a.1, a.2⟩, by rw [f.1 13 0 (by decide)]; exact b, by rw [f.1 14 1 (by decide)]; exact c, by rw [f.1 13 0 (by decide)]; exact d, by rw [f.1 14 2 (by decide)]; exact e, by rw [f.1 13 0 (by decide)]; exact g, by rw [f.1 14 4 (by decide)]; exact i⟩
def q_helpsE (x y : Int32) : Nat := cond (q_ix x 4 && q_ix y 3) 0 1
theorem q_X5_helps {post : eQ} {np ni : Nat} {x y : Int32} (hM : q_M S v sv sn sp tk tx ln) (hv : q_ok0 v np ni) (h : q_tel S v sv sn sp tk tx ln post (q_helpsE x y) (q_hl v x.toNatClampNeg np y.toNatClampNeg np 0)) : w_X5_helps [aR 13 0, aI x, aI y] S post := by
  have no : q_helpsE x y = 1 → e_Run tb_X5_helps post e_no 20 [some (aR 13 0), some (aI x), some (aI y)] [aI (nI 1), aR 13 0] S 0 0 := by
    intro he
    refine e_walk (stops := [23]) 1 ?_
    refine q_M_holds hM (by decide) (fun S1 f1 m1 t1 => ?_)
    have h := h S1 f1 m1 (by rw [he]; exact t1)
    rw [he] at h
    refine e_walk (stops := []) 20 ?_
    exact And.intro (fun c => h) (fun c => absurd rfl c)
  refine e_walk (stops := [5]) 20 ?_
  refine q_X5_isMarch ?_
  refine e_walk (stops := [12, 20]) 20 ?_
  cases z1 : q_ix x 4 with
  | false => exact And.intro (fun c => no (by unfold q_helpsE; rw [z1]; rfl)) (fun c => absurd rfl c)
  | true =>
    refine And.intro (fun c => absurd c (by decide)) (fun c => ?_)
    refine q_X5_isTeacher ?_
    refine e_walk (stops := [20]) 20 ?_
    cases z2 : q_ix y 3 with
    | false => exact And.intro (fun c => no (by unfold q_helpsE; rw [z1, z2]; rfl)) (fun c => absurd rfl c)
    | true =>
      have he : q_helpsE x y = 0 := by unfold q_helpsE; rw [z1, z2]; rfl
      refine And.intro (fun c => absurd c (by decide)) (fun c => ?_)
      refine e_walk (stops := [23]) 1 ?_
      refine q_M_holds (e := 0) hM (by decide) (fun S1 f1 m1 t1 => ?_)
      obtain ⟨m, hm, rfl⟩ := q_ix_of (by omega) z1
      obtain ⟨t, ht, rfl⟩ := q_ix_of (by omega) z2
      rw [nI_clamp (by omega), nI_clamp (by omega)] at h
      refine e_walk (stops := [32]) 20 ?_
      refine And.intro (fun c => absurd c (by decide)) (fun c => ?_)
      refine q_X5_helpsTold (np := np) (ni := ni) (by rw [m1.eqv]; exact hv) hm ht (fun S2 f2 e2 => ?_)
      have h := h S2 (f1.trans (q_fm.of3 f2)) (m1.of3 f2 e2) (by rw [f2.1 13 0 (by decide), he]; exact t1)
      rw [he] at h
      rw [m1.eqv]
      generalize q_hl v m np t np 0 = r at h ⊢
      refine e_walk (stops := []) 20 ?_
      exact h
end RefHelps2
