/-! What walks come to: the system's text. Own work. -/
section Texts
variable {S S1 S2 : eM} {post : eQ} {f : Nat → Int32} {ln i : Nat}
theorem q_X3_length (hT : q_T1 S 1 i f ln) (h : post (some (aI (nI ln))) S) : w_X3_length [aR 12 0] S post := by
  refine e_walk (stops := [7]) 20 ?_
  refine q_J4_length hT ?_
  exact e_walk (stops := []) 20 h
theorem q_X3_signAt {x : Int32} (hT : q_T1 S 1 i f ln) (hy : ∀ j, j < ln → x = nI j → post (some (aI (f j))) S) (hn : q_ix x ln = false → post (some (aI 32)) S) : w_X3_signAt [aR 12 0, aI x] S post := by
  have h70 : ln ≤ 70 := by have := hT.2.2.2.1; omega
  cases hz : q_ix x ln with
  | false =>
    have hn := hn hz
    rcases q_ix_no (by omega) hz with z | ⟨z1, z2⟩
    · refine e_walk (stops := []) 20 ?_
      exact And.intro (fun _ => And.intro rfl hn) (fun c => absurd z c)
    · refine e_walk (stops := [12]) 20 ?_
      refine And.intro (fun c => absurd c z1) (fun _ => ?_)
      refine q_J4_length hT ?_
      refine e_walk (stops := []) 20 ?_
      exact And.intro (fun _ => And.intro rfl hn) (fun c => absurd (Int32.not_lt.mp z2) c)
  | true =>
    obtain ⟨j, hj, rfl⟩ := q_ix_of (by omega) hz
    have hy := hy j hj rfl
    obtain ⟨n, hn2, en⟩ := hT.2.2.2.2.1 j (by have := hT.2.2.2.1; omega)
    have ef : f j = nI n := (hT.2.2.2.2.2 j hj).symm.trans en
    refine e_walk (stops := [12]) 20 ?_
    refine And.intro (fun c => absurd c (nI_pos (by omega))) (fun _ => ?_)
    refine q_J4_length hT ?_
    refine e_walk (stops := [23]) 20 ?_
    refine And.intro (fun c => absurd c (nI_ge hj (by omega))) (fun _ => ?_)
    refine q_J4_charAt hT hj ?_
    refine e_walk (stops := []) 20 ?_
    exact And.intro (by rw [ef]; exact (q_chr hn2).2) hy
theorem q_X3_formOf {w : Nat} (hw : w < 6) (h : post (some (aR 20 (4 + w))) S) : w_X3_formOf [aI (nI w)] S post := by
  refine e_walk (stops := []) 20 ?_
  rcases (show w = 0 ∨ w = 1 ∨ w = 2 ∨ w = 3 ∨ w = 4 ∨ w = 5 by omega) with rfl | rfl | rfl | rfl | rfl | rfl
  · exact And.intro (fun _ => h) (fun c => absurd rfl c)
  · exact And.intro (fun c => absurd c (by decide)) (fun _ => And.intro (fun _ => h) (fun c => absurd rfl c))
  · exact And.intro (fun c => absurd c (by decide)) (fun _ => And.intro (fun c => absurd c (by decide)) (fun _ => And.intro (fun _ => h) (fun c => absurd rfl c)))
  · exact And.intro (fun c => absurd c (by decide)) (fun _ => And.intro (fun c => absurd c (by decide)) (fun _ => And.intro (fun c => absurd c (by decide)) (fun _ => And.intro (fun _ => h) (fun c => absurd rfl c))))
  · exact And.intro (fun c => absurd c (by decide)) (fun _ => And.intro (fun c => absurd c (by decide)) (fun _ => And.intro (fun c => absurd c (by decide)) (fun _ => And.intro (fun c => absurd c (by decide)) (fun _ => And.intro (fun _ => h) (fun c => absurd rfl c)))))
  · exact And.intro (fun c => absurd c (by decide)) (fun _ => And.intro (fun c => absurd c (by decide)) (fun _ => And.intro (fun c => absurd c (by decide)) (fun _ => And.intro (fun c => absurd c (by decide)) (fun _ => And.intro (fun c => absurd c (by decide)) (fun _ => h)))))
theorem q_X3_fits {x c : Int32} (h : post (some (aI (cond (q_fit x c) 1 0))) S) : w_X3_fits [aI x, aI c] S post := by
  unfold q_fit at h
  refine e_walk (stops := []) 30 ?_
  refine And.intro (fun c1 => ?_) (fun c1 => ?_)
  · rw [decide_eq_false (show ¬ (48 : Int32) ≤ c from Int32.not_le.mpr c1), Bool.false_and, cond_false] at h
    refine And.intro (fun c2 => ?_) (fun c2 => ?_)
    · rw [decide_eq_true (show x = c from c2)] at h
      exact h
    · rw [decide_eq_false (show ¬ x = c from c2)] at h
      exact h
  · rw [decide_eq_true (show (48 : Int32) ≤ c from Int32.not_lt.mp c1), Bool.true_and] at h
    refine And.intro (fun c2 => ?_) (fun c2 => ?_)
    · rw [decide_eq_false (show ¬ c ≤ (57 : Int32) from Int32.not_le.mpr c2), cond_false] at h
      refine And.intro (fun c3 => ?_) (fun c3 => ?_)
      · rw [decide_eq_true (show x = c from c3)] at h
        exact h
      · rw [decide_eq_false (show ¬ x = c from c3)] at h
        exact h
    · rw [decide_eq_true (show c ≤ (57 : Int32) from Int32.not_lt.mp c2), cond_true] at h
      refine And.intro (fun c3 => ?_) (fun c3 => ?_)
      · rw [decide_eq_false (show ¬ ¬ x < 48 from fun z => z c3), Bool.false_and] at h
        exact h
      · rw [decide_eq_true (show ¬ x < 48 from c3), Bool.true_and] at h
        refine And.intro (fun c4 => ?_) (fun c4 => ?_)
        · rw [decide_eq_false (show ¬ ¬ c < x from fun z => z c4)] at h
          exact h
        · rw [decide_eq_true (show ¬ c < x from c4)] at h
          exact h
theorem q_lm_ge (f : Nat → Int32) (ln : Nat) : ∀ cs p m, m ≤ q_lm f ln cs p ↔ m ≤ cs.length ∧ ∀ k, k < m → p + k < ln ∧ q_fit (f (p + k)) (cs.getD k 0) = true
  | [], p, m => by
    show m ≤ 0 ↔ m ≤ 0 ∧ _
    exact ⟨fun h => ⟨h, fun k hk => by omega⟩, fun h => h.1⟩
  | c :: cs, p, m => by
    cases hc : (decide (p < ln) && q_fit (f p) c) with
    | false =>
      rw [q_lm_miss hc]
      constructor
      · intro h
        exact ⟨by omega, fun k hk => by omega⟩
      · rintro ⟨h1, h2⟩
        rcases Nat.eq_zero_or_pos m with z | z
        · omega
        · obtain ⟨a, e⟩ := h2 0 z
          rw [Nat.add_zero] at a e
          have e : q_fit (f p) c = true := e
          rw [decide_eq_true a, e] at hc
          cases hc
    | true =>
      rw [Bool.and_eq_true, decide_eq_true_eq] at hc
      rw [q_lm_hit hc.1 hc.2]
      rcases m with _ | m
      · exact ⟨fun _ => ⟨Nat.zero_le _, fun k hk => absurd hk (Nat.not_lt_zero k)⟩, fun _ => Nat.zero_le _⟩
      · rw [Nat.succ_le_succ_iff, q_lm_ge f ln cs (p + 1) m]
        constructor
        · rintro ⟨h1, h2⟩
          refine ⟨Nat.succ_le_succ h1, fun k hk => ?_⟩
          rcases k with _ | k
          · exact hc
          · obtain ⟨a, e⟩ := h2 k (by omega)
            rw [show p + 1 + k = p + (k + 1) by omega] at a e
            exact ⟨a, e⟩
        · rintro ⟨h1, h2⟩
          refine ⟨Nat.le_of_succ_le_succ h1, fun k hk => ?_⟩
          obtain ⟨a, e⟩ := h2 (k + 1) (by omega)
          rw [show p + (k + 1) = p + 1 + k by omega] at a e
          exact ⟨a, e⟩
theorem q_sl_len : ∀ q, q < 10 → e_sl.getD q 0 = (e_sb.getD q []).length := by decide
theorem q_X3_begins {q st en : Nat} (hT : q_T1 S 1 i f ln) (hq : q < 10) (h1 : st ≤ en) (h2 : en ≤ ln) (h : post (some (aI (cond (decide (en - st ≤ q_lm f ln (e_sb.getD q []) st)) 1 0))) S) : w_X3_begins [aR 12 0, aR 20 q, aI (nI st), aI (nI en)] S post := by
  have h70 : ln ≤ 70 := by have := hT.2.2.2.1; omega
  have hL := q_sl_len q hq
  have h8 := q_sl_le hq
  have hge := q_lm_ge f ln (e_sb.getD q []) st (en - st)
  rw [← hL] at hge
  refine e_walk (stops := [3]) 20 ?_
  show e_Run tb_X3_begins post e_no 3 [some (aR 12 0), some (aR 20 q), some (aI (nI st)), some (aI (nI en)), none] [aI (nI en - nI st)] S 0 0
  rw [q_sub h1]
  refine e_walk (stops := [7]) 20 ?_
  refine q_J0_length hq ?_
  by_cases hlen : en - st ≤ e_sl.getD q 0
  · have loop : ∀ d k, k + d = en - st → (∀ k2, k2 < k → q_fit (f (st + k2)) ((e_sb.getD q []).getD k2 0) = true) → e_Run tb_X3_begins post e_no 15 [some (aR 12 0), some (aR 20 q), some (aI (nI st)), some (aI (nI en)), some (aI (nI k))] [] S 0 0 := by
      intro d
      induction d with
      | zero =>
        intro k hk hall
        have hk : k = en - st := by omega
        refine e_walk (stops := [20]) 20 ?_
        show e_Run tb_X3_begins post e_no 20 [some (aR 12 0), some (aR 20 q), some (aI (nI st)), some (aI (nI en)), some (aI (nI k))] [aI (nI en - nI st), aI (nI k)] S 0 0
        rw [q_sub h1, hk]
        rw [decide_eq_true (hge.mpr ⟨hlen, fun k2 hk2 => ⟨by omega, hall k2 (by omega)⟩⟩)] at h
        refine e_walk (stops := []) 20 ?_
        exact And.intro (fun _ => h) (fun c => absurd (Int32.le_refl _) c)
      | succ d ih =>
        intro k hk hall
        refine e_walk (stops := [20]) 20 ?_
        show e_Run tb_X3_begins post e_no 20 [some (aR 12 0), some (aR 20 q), some (aI (nI st)), some (aI (nI en)), some (aI (nI k))] [aI (nI en - nI st), aI (nI k)] S 0 0
        rw [q_sub h1]
        refine e_walk (stops := [29]) 20 ?_
        refine And.intro (fun c => absurd c (nI_ge (a := k) (b := en - st) (by omega) (by omega))) (fun _ => ?_)
        refine q_J0_length hq ?_
        refine e_walk (stops := [37]) 20 ?_
        refine And.intro (fun c => absurd c (nI_ge (a := k) (b := e_sl.getD q 0) (by omega) (by omega))) (fun _ => ?_)
        show e_Run tb_X3_begins post e_no 37 [some (aR 12 0), some (aR 20 q), some (aI (nI st)), some (aI (nI en)), some (aI (nI k))] [aI (nI st + nI k), aR 12 0] S 0 0
        rw [nI_add]
        refine e_walk (stops := [40]) 20 ?_
        refine q_X3_signAt hT (fun j hj e => ?_) (fun z => absurd z (by rw [q_ix_mk (by omega) (show st + k < ln by omega)]; decide))
        have : st + k = j := (nI_eq (by omega) (by omega)).mp e
        subst this
        refine e_walk (stops := [46]) 20 ?_
        refine q_J0_charAt hq (by omega) ?_
        refine e_walk (stops := [49]) 20 ?_
        refine q_X3_fits ?_
        cases hf : q_fit (f (st + k)) ((e_sb.getD q []).getD k 0) with
        | true =>
          refine e_walk (stops := [15]) 20 ?_
          refine And.intro (fun c => absurd c (by decide)) (fun _ => ?_)
          show e_Run tb_X3_begins post e_no 15 [some (aR 12 0), some (aR 20 q), some (aI (nI st)), some (aI (nI en)), some (aI (nI k + 1))] [] S 0 0
          rw [nI_1]
          refine ih (k + 1) (by omega) (fun k2 hk2 => ?_)
          by_cases z : k2 = k
          · subst z
            exact hf
          · exact hall k2 (by omega)
        | false =>
          rw [decide_eq_false (fun z => by have := ((hge.mp z).2 k (by omega)).2; rw [hf] at this; cases this)] at h
          refine e_walk (stops := []) 20 ?_
          exact And.intro (fun _ => h) (fun c => absurd rfl c)
    refine e_walk (stops := [15]) 20 ?_
    refine And.intro (fun _ => ?_) (fun c => absurd (nI_le hlen (by omega)) c)
    exact loop (en - st) 0 (by omega) (fun k2 hk2 => absurd hk2 (Nat.not_lt_zero k2))
  · rw [decide_eq_false (fun z => hlen (hge.mp z).1)] at h
    refine e_walk (stops := []) 20 ?_
    exact And.intro (fun c => absurd ((nI_leI (by omega) (by omega)).mp c) hlen) (fun _ => h)
/-- no word goes further than the one that is read -/
theorem q_wd_max {p w : Nat} (hw : w < 6) : q_lm f ln (q_form w) p ≤ q_lm f ln (q_form (q_wd f ln p)) p ∧ (q_lm f ln (q_form w) p = (q_form w).length → w = q_wd f ln p) := by
  have hl : ∀ w, w < 6 → 3 ≤ (q_form w).length := by decide
  have z0 : ∀ w, w < 6 → q_lm f ln (q_form w) p = 0 → q_lm f ln (q_form w) p ≤ q_lm f ln (q_form (q_wd f ln p)) p ∧ (q_lm f ln (q_form w) p = (q_form w).length → w = q_wd f ln p) := fun w hw z => by
    have := hl w hw
    rw [z]
    exact ⟨Nat.zero_le _, fun y => by omega⟩
  by_cases hp : p < ln
  · have hwd : q_wd f ln p = (if f p = 108 then 0 else if f p = 98 then 1 else if f p = 116 then 2 else if f p = 100 then 5 else if f p = 109 then cond (decide (p + 1 < ln) && decide (f (p + 1) = 97)) 3 4 else 6) := by unfold q_wd; rw [decide_eq_true hp]; rfl
    have first : ∀ w c cs, q_form w = c :: cs → (decide (48 ≤ c) && decide (c ≤ 57)) = false → f p ≠ c → q_lm f ln (q_form w) p = 0 := fun w c cs e hc n => by
      rw [e]
      refine q_lm_miss ?_
      rw [q_fit_l hc, decide_eq_false n, Bool.and_false]
    have same : w = q_wd f ln p → q_lm f ln (q_form w) p ≤ q_lm f ln (q_form (q_wd f ln p)) p ∧ (q_lm f ln (q_form w) p = (q_form w).length → w = q_wd f ln p) := fun e => ⟨by rw [← e]; exact Nat.le_refl _, fun _ => e⟩
    rcases (show w = 0 ∨ w = 1 ∨ w = 2 ∨ w = 3 ∨ w = 4 ∨ w = 5 by omega) with rfl | rfl | rfl | rfl | rfl | rfl
    · by_cases c : f p = 108
      · exact same (by rw [hwd, if_pos c])
      · exact z0 0 hw (first 0 108 _ rfl (by decide) c)
    · by_cases c : f p = 98
      · exact same (by rw [hwd, if_neg (by rw [c]; decide), if_pos c])
      · exact z0 1 hw (first 1 98 _ rfl (by decide) c)
    · by_cases c : f p = 116
      · exact same (by rw [hwd, if_neg (by rw [c]; decide), if_neg (by rw [c]; decide), if_pos c])
      · exact z0 2 hw (first 2 116 _ rfl (by decide) c)
    · by_cases c : f p = 109
      · cases c2 : (decide (p + 1 < ln) && decide (f (p + 1) = 97)) with
        | true => exact same (by rw [hwd, if_neg (by rw [c]; decide), if_neg (by rw [c]; decide), if_neg (by rw [c]; decide), if_neg (by rw [c]; decide), if_pos c, c2]; rfl)
        | false =>
          have e4 : q_wd f ln p = 4 := by rw [hwd, if_neg (by rw [c]; decide), if_neg (by rw [c]; decide), if_neg (by rw [c]; decide), if_neg (by rw [c]; decide), if_pos c, c2]; rfl
          have l3 : q_lm f ln (q_form 3) p = 1 := by
            show q_lm f ln ((109 : Int32) :: 97 :: [114, 99, 104, 51]) p = 1
            rw [q_lm_hit hp (by rw [q_fit_l (by decide), decide_eq_true c]), q_lm_miss (by rw [q_fit_l (by decide)]; exact c2)]
          have l4 : 1 ≤ q_lm f ln (q_form 4) p := by
            show 1 ≤ q_lm f ln ((109 : Int32) :: [101, 110, 100, 57]) p
            rw [q_lm_hit hp (by rw [q_fit_l (by decide), decide_eq_true c])]
            omega
          rw [e4, l3]
          exact ⟨l4, fun y => absurd y (by decide)⟩
      · exact z0 3 hw (first 3 109 _ rfl (by decide) c)
    · by_cases c : f p = 109
      · cases c2 : (decide (p + 1 < ln) && decide (f (p + 1) = 97)) with
        | false => exact same (by rw [hwd, if_neg (by rw [c]; decide), if_neg (by rw [c]; decide), if_neg (by rw [c]; decide), if_neg (by rw [c]; decide), if_pos c, c2]; rfl)
        | true =>
          have e3 : q_wd f ln p = 3 := by rw [hwd, if_neg (by rw [c]; decide), if_neg (by rw [c]; decide), if_neg (by rw [c]; decide), if_neg (by rw [c]; decide), if_pos c, c2]; rfl
          rw [Bool.and_eq_true, decide_eq_true_eq, decide_eq_true_eq] at c2
          have l4 : q_lm f ln (q_form 4) p = 1 := by
            show q_lm f ln ((109 : Int32) :: 101 :: [110, 100, 57]) p = 1
            rw [q_lm_hit hp (by rw [q_fit_l (by decide), decide_eq_true c]), q_lm_miss (by rw [q_fit_l (by decide), c2.2, decide_eq_false (show ¬ (97 : Int32) = 101 by decide), Bool.and_false])]
          have l3 : 1 ≤ q_lm f ln (q_form 3) p := by
            show 1 ≤ q_lm f ln ((109 : Int32) :: [97, 114, 99, 104, 51]) p
            rw [q_lm_hit hp (by rw [q_fit_l (by decide), decide_eq_true c])]
            omega
          rw [e3, l4]
          exact ⟨l3, fun y => absurd y (by decide)⟩
      · exact z0 4 hw (first 4 109 _ rfl (by decide) c)
    · by_cases c : f p = 100
      · exact same (by rw [hwd, if_neg (by rw [c]; decide), if_neg (by rw [c]; decide), if_neg (by rw [c]; decide), if_pos c])
      · exact z0 5 hw (first 5 100 _ rfl (by decide) c)
  · refine z0 w hw ?_
    have e : ∀ w, w < 6 → ∃ c cs, q_form w = c :: cs := by
      intro w hw
      rcases (show w = 0 ∨ w = 1 ∨ w = 2 ∨ w = 3 ∨ w = 4 ∨ w = 5 by omega) with rfl | rfl | rfl | rfl | rfl | rfl <;> exact ⟨_, _, rfl⟩
    obtain ⟨c, cs, ec⟩ := e w hw
    rw [ec]
    exact q_lm_miss (by rw [decide_eq_false hp, Bool.false_and])
theorem q_wd_6 {p : Nat} (h : ¬ q_wd f ln p < 6) : q_lm f ln (q_form (q_wd f ln p)) p = 0 := by
  have : q_wd f ln p = 6 := by
    unfold q_wd at h ⊢
    cases hp : decide (p < ln) with
    | false => rfl
    | true =>
      rw [hp, cond_true] at h
      rw [cond_true]
      by_cases c1 : f p = 108
      · rw [if_pos c1] at h; exact absurd (by decide) h
      by_cases c2 : f p = 98
      · rw [if_neg c1, if_pos c2] at h; exact absurd (by decide) h
      by_cases c3 : f p = 116
      · rw [if_neg c1, if_neg c2, if_pos c3] at h; exact absurd (by decide) h
      by_cases c4 : f p = 100
      · rw [if_neg c1, if_neg c2, if_neg c3, if_pos c4] at h; exact absurd (by decide) h
      by_cases c5 : f p = 109
      · rw [if_neg c1, if_neg c2, if_neg c3, if_neg c4, if_pos c5] at h
        cases hh : (decide (p + 1 < ln) && decide (f (p + 1) = 97)) with
        | true => rw [hh] at h; exact absurd (show (3 : Nat) < 6 by decide) h
        | false => rw [hh] at h; exact absurd (show (4 : Nat) < 6 by decide) h
      rw [if_neg c1, if_neg c2, if_neg c3, if_neg c4, if_neg c5]
  rw [this]; rfl
theorem q_X3_beginsAny {st en : Nat} (hT : q_T1 S 1 i f ln) (h1 : st < en) (h2 : en ≤ ln) (h : post (some (aI (cond (decide (en ≤ q_end f ln st)) 1 0))) S) : w_X3_beginsAny [aR 12 0, aI (nI st), aI (nI en)] S post := by
  have loop : ∀ d w, w + d = 6 → (∀ w2, w2 < w → ¬ en - st ≤ q_lm f ln (q_form w2) st) → e_Run tb_X3_beginsAny post e_no 2 [some (aR 12 0), some (aI (nI st)), some (aI (nI en)), some (aI (nI w))] [] S 0 0 := by
    intro d
    induction d with
    | zero =>
      intro w hw hall
      obtain rfl : w = 6 := by omega
      have hno : ¬ en ≤ q_end f ln st := fun z => by
        unfold q_end at z
        by_cases y : q_wd f ln st < 6
        · exact hall _ y (by omega)
        · rw [q_wd_6 y] at z
          omega
      rw [decide_eq_false hno] at h
      refine e_walk (stops := []) 20 ?_
      exact And.intro (fun _ => h) (fun c => absurd (by decide) c)
    | succ d ih =>
      intro w hw hall
      refine e_walk (stops := [13]) 20 ?_
      refine And.intro (fun c => absurd c (nI_ge (a := w) (b := 6) (by omega) (by decide))) (fun _ => ?_)
      refine q_X3_formOf (by omega) ?_
      refine e_walk (stops := [18]) 20 ?_
      refine q_X3_begins hT (by omega) (by omega) h2 ?_
      by_cases z : en - st ≤ q_lm f ln (q_form w) st
      · have hyes : en ≤ q_end f ln st := by
          have := (q_wd_max (f := f) (ln := ln) (p := st) (show w < 6 by omega)).1
          unfold q_end
          omega
        rw [decide_eq_true hyes] at h
        rw [decide_eq_true (show en - st ≤ q_lm f ln (e_sb.getD (4 + w) []) st from z)]
        refine e_walk (stops := []) 20 ?_
        exact And.intro (fun c => absurd c (by decide)) (fun _ => h)
      · rw [decide_eq_false (show ¬ en - st ≤ q_lm f ln (e_sb.getD (4 + w) []) st from z)]
        refine e_walk (stops := [2]) 20 ?_
        refine And.intro (fun _ => ?_) (fun c => absurd rfl c)
        show e_Run tb_X3_beginsAny post e_no 2 [some (aR 12 0), some (aI (nI st)), some (aI (nI en)), some (aI (nI w + 1))] [] S 0 0
        rw [nI_1]
        refine ih (w + 1) (by omega) (fun w2 hw2 => ?_)
        by_cases y : w2 = w
        · subst y
          exact z
        · exact hall w2 (by omega)
  refine e_walk (stops := [2]) 20 ?_
  exact loop 6 0 rfl (fun w2 hw2 => absurd hw2 (Nat.not_lt_zero w2))
/-- a part that is whole just here -/
def q_wh (f : Nat → Int32) (ln st en : Nat) : Bool := q_fin f ln st && decide (en = q_end f ln st)
theorem q_X3_wholeWord {st en : Nat} (hT : q_T1 S 1 i f ln) (h1 : st ≤ en) (h2 : en ≤ ln) (h : post (some (aI (cond (q_wh f ln st en) (nI (q_wd f ln st)) (-1)))) S) : w_X3_wholeWord [aR 12 0, aI (nI st), aI (nI en)] S post := by
  have h70 : ln ≤ 70 := by have := hT.2.2.2.1; omega
  have hit : ∀ w, w < 6 → (e_sl.getD (4 + w) 0 = en - st ∧ en - st ≤ q_lm f ln (q_form w) st) → w = q_wd f ln st ∧ q_wh f ln st en = true := fun w hw hh => by
    have hL := q_sl_len (4 + w) (by omega)
    have hle := q_lm_le f ln (q_form w) st
    have hl2 : (q_form w).length = e_sl.getD (4 + w) 0 := hL.symm
    have e1 : q_lm f ln (q_form w) st = (q_form w).length := by omega
    have e2 := (q_wd_max (f := f) (ln := ln) (p := st) hw).2 e1
    refine ⟨e2, ?_⟩
    unfold q_wh q_fin q_end
    rw [← e2, e1, decide_eq_true hw, decide_eq_true rfl, decide_eq_true (by omega)]; rfl
  have loop : ∀ d w, w + d = 6 → (∀ w2, w2 < w → ¬ (e_sl.getD (4 + w2) 0 = en - st ∧ en - st ≤ q_lm f ln (q_form w2) st)) → ∀ l4, e_Run tb_X3_wholeWord post e_no 2 [some (aR 12 0), some (aI (nI st)), some (aI (nI en)), some (aI (nI w)), l4] [] S 0 0 := by
    intro d
    induction d with
    | zero =>
      intro w hw hall l4
      obtain rfl : w = 6 := by omega
      have hno : q_wh f ln st en = false := by
        cases hh : q_wh f ln st en with
        | false => rfl
        | true =>
          unfold q_wh at hh
          rw [Bool.and_eq_true, decide_eq_true_eq] at hh
          have h6 := q_fin_lt hh.1
          have hf := hh.1
          unfold q_fin at hf
          rw [Bool.and_eq_true, decide_eq_true_eq, decide_eq_true_eq] at hf
          have hL := q_sl_len (4 + q_wd f ln st) (by omega)
          have he := hh.2
          unfold q_end at he
          have hl2 : (q_form (q_wd f ln st)).length = e_sl.getD (4 + q_wd f ln st) 0 := hL.symm
          exact absurd ⟨by omega, by omega⟩ (hall _ h6)
      rw [hno] at h
      refine e_walk (stops := []) 20 ?_
      exact And.intro (fun _ => h) (fun c => absurd (by decide) c)
    | succ d ih =>
      intro w hw hall l4
      have next : ¬ (e_sl.getD (4 + w) 0 = en - st ∧ en - st ≤ q_lm f ln (q_form w) st) → e_Run tb_X3_wholeWord post e_no 38 [some (aR 12 0), some (aI (nI st)), some (aI (nI en)), some (aI (nI w)), some (aR 20 (4 + w))] [] S 0 0 := fun z => by
        refine e_walk (stops := [2]) 20 ?_
        show e_Run tb_X3_wholeWord post e_no 2 [some (aR 12 0), some (aI (nI st)), some (aI (nI en)), some (aI (nI w + 1)), some (aR 20 (4 + w))] [] S 0 0
        rw [nI_1]
        refine ih (w + 1) (by omega) (fun w2 hw2 => ?_) _
        by_cases y : w2 = w
        · subst y
          exact z
        · exact hall w2 (by omega)
      have h8 := q_sl_le (q := 4 + w) (by omega)
      refine e_walk (stops := [12]) 20 ?_
      refine And.intro (fun c => absurd c (nI_ge (a := w) (b := 6) (by omega) (by decide))) (fun _ => ?_)
      refine q_X3_formOf (by omega) ?_
      refine e_walk (stops := [19]) 20 ?_
      refine q_J0_length (by omega) ?_
      refine e_walk (stops := [22]) 20 ?_
      show e_Run tb_X3_wholeWord post e_no 22 [some (aR 12 0), some (aI (nI st)), some (aI (nI en)), some (aI (nI w)), some (aR 20 (4 + w))] [aI (nI en - nI st), aI (nI (e_sl.getD (4 + w) 0))] S 0 0
      rw [q_sub h1]
      refine e_walk (stops := [33, 38]) 20 ?_
      refine And.intro (fun c => ?_) (fun c => ?_)
      · have c : e_sl.getD (4 + w) 0 = en - st := (nI_eq (by omega) (by omega)).mp c
        refine q_X3_begins hT (by omega) h1 h2 ?_
        by_cases z : en - st ≤ q_lm f ln (q_form w) st
        · obtain ⟨e1, e2⟩ := hit w (by omega) ⟨c, z⟩
          rw [e2, cond_true, ← e1] at h
          rw [decide_eq_true (show en - st ≤ q_lm f ln (e_sb.getD (4 + w) []) st from z)]
          refine e_walk (stops := []) 20 ?_
          exact And.intro (fun c => absurd c (by decide)) (fun _ => h)
        · rw [decide_eq_false (show ¬ en - st ≤ q_lm f ln (e_sb.getD (4 + w) []) st from z)]
          refine e_walk (stops := [38]) 20 ?_
          exact And.intro (fun _ => next (fun y => z y.2)) (fun c => absurd rfl c)
      · have c : ¬ e_sl.getD (4 + w) 0 = en - st := fun z => c (by rw [z])
        exact next (fun y => c y.1)
  refine e_walk (stops := [2]) 20 ?_
  exact loop 6 0 rfl (fun w2 hw2 => absurd hw2 (Nat.not_lt_zero w2)) _
theorem q_fit_59 : ∀ w, w < 6 → ∀ k, k < (q_form w).length → q_fit 59 ((q_form w).getD k 0) = false := by decide +kernel
/-- no part holds a sign between parts -/
theorem q_no59 {s at0 : Nat} (h1 : s ≤ at0) (h2 : at0 < q_end f ln s) : ¬ f at0 = 59 := by
  intro z
  unfold q_end at h2
  by_cases y : q_wd f ln s < 6
  · obtain ⟨a, b⟩ := (q_lm_ge f ln (q_form (q_wd f ln s)) s (at0 - s + 1)).mp (by omega)
    have := (b (at0 - s) (by omega)).2
    rw [show s + (at0 - s) = at0 by omega, z, q_fit_59 _ y _ (by omega)] at this
    cases this
  · rw [q_wd_6 y] at h2
    omega
theorem q_X3_isEndOfPart {at0 : Nat} (hT : q_T1 S 1 i f ln) (h1 : at0 ≤ ln) (h : post (some (aI (cond (decide (at0 = ln) || decide (f at0 = 59)) 1 0))) S) : w_X3_isEndOfPart [aR 12 0, aI (nI at0)] S post := by
  have h70 : ln ≤ 70 := by have := hT.2.2.2.1; omega
  refine e_walk (stops := [8]) 20 ?_
  refine q_J4_length hT ?_
  refine e_walk (stops := [16]) 20 ?_
  refine And.intro (fun c => ?_) (fun c => ?_)
  · have c : at0 = ln := (nI_eq (by omega) (by omega)).mp c
    rw [decide_eq_true c, Bool.true_or] at h
    exact h
  · have c : ¬ at0 = ln := fun z => c (by rw [z])
    rw [decide_eq_false c, Bool.false_or] at h
    refine q_X3_signAt hT (fun j hj e => ?_) (fun z => absurd z (by rw [q_ix_mk (by omega) (show at0 < ln by omega)]; decide))
    have : at0 = j := (nI_eq (by omega) (by omega)).mp e
    subst this
    refine e_walk (stops := []) 20 ?_
    refine And.intro (fun c2 => ?_) (fun c2 => ?_)
    · rw [decide_eq_true (show f at0 = 59 from c2)] at h
      exact h
    · rw [decide_eq_false (show ¬ f at0 = 59 from c2)] at h
      exact h
theorem q_X3_firstWrong (hT : q_T1 S 1 i f ln) (h : post (some (aI (nI (q_fe f ln)))) S) : w_X3_firstWrong [aR 12 0] S post := by
  have h70 : ln ≤ 70 := by have := hT.2.2.2.1; omega
  have loop : ∀ d at0, at0 + d = ln → ∀ n s, s ≤ at0 → at0 ≤ q_end f ln s → ln + 1 ≤ s + n → post (some (aI (nI (cond (q_rd f ln n s).1 ln (q_rd f ln n s).2)))) S → e_Run tb_X3_firstWrong post e_no 4 [some (aR 12 0), some (aI (nI s)), some (aI (nI at0))] [] S 0 0 := by
    intro d
    induction d with
    | zero =>
      intro at0 ha n s h1 h2 hn hp
      obtain rfl : at0 = ln := by omega
      obtain ⟨b1, b2⟩ := q_end_le (f := f) h1
      have e : q_end f at0 s = at0 := by omega
      obtain ⟨n, rfl⟩ : ∃ m, n = m + 1 := ⟨n - 1, by omega⟩
      have hr : cond (q_rd f at0 (n + 1) s).1 at0 (q_rd f at0 (n + 1) s).2 = at0 := by
        rw [q_rd, e, decide_eq_true rfl]
        cases q_fin f at0 s <;> rfl
      rw [hr] at hp
      refine e_walk (stops := [12]) 20 ?_
      refine q_J4_length hT ?_
      refine e_walk (stops := [68]) 20 ?_
      refine And.intro (fun _ => ?_) (fun c => absurd (Int32.le_refl _) c)
      refine q_J4_length hT ?_
      exact e_walk (stops := []) 20 hp
    | succ d ih =>
      intro at0 ha n s h1 h2 hn hp
      obtain ⟨b1, b2⟩ := q_end_le (f := f) (ln := ln) (p := s) (by omega)
      refine e_walk (stops := [12]) 20 ?_
      refine q_J4_length hT ?_
      refine e_walk (stops := [20]) 20 ?_
      refine And.intro (fun c => absurd c (nI_ge (a := at0) (b := ln) (by omega) (by omega))) (fun _ => ?_)
      refine q_X3_signAt hT (fun j hj e => ?_) (fun z => absurd z (by rw [q_ix_mk (by omega) (show at0 < ln by omega)]; decide))
      have : at0 = j := (nI_eq (by omega) (by omega)).mp e
      subst this
      have any : (at0 = q_end f ln s → ¬ (q_fin f ln s = true ∧ f at0 = 59)) → e_Run tb_X3_firstWrong post e_no 42 [some (aR 12 0), some (aI (nI s)), some (aI (nI at0))] [] S 0 0 := fun hno => by
        refine e_walk (stops := [47]) 20 ?_
        show e_Run tb_X3_firstWrong post e_no 47 [some (aR 12 0), some (aI (nI s)), some (aI (nI at0))] [aI (nI at0 + 1), aI (nI s), aR 12 0] S 0 0
        rw [nI_1]
        refine e_walk (stops := [50]) 20 ?_
        refine q_X3_beginsAny hT (by omega) (by omega) ?_
        by_cases z : at0 + 1 ≤ q_end f ln s
        · rw [decide_eq_true z]
          refine e_walk (stops := [4]) 20 ?_
          refine And.intro (fun c => absurd c (by decide)) (fun _ => ?_)
          show e_Run tb_X3_firstWrong post e_no 4 [some (aR 12 0), some (aI (nI s)), some (aI (nI at0 + 1))] [] S 0 0
          rw [nI_1]
          exact ih (at0 + 1) (by omega) n s (by omega) z hn hp
        · have e : at0 = q_end f ln s := by omega
          have hno := hno e
          obtain ⟨n, rfl⟩ : ∃ m, n = m + 1 := ⟨n - 1, by omega⟩
          have hr : q_rd f ln (n + 1) s = (false, at0) := by
            rw [q_rd, ← e]
            cases hf : q_fin f ln s with
            | false => rfl
            | true =>
              rw [cond_true, decide_eq_false (show ¬ at0 = ln by omega), cond_false, decide_eq_false (fun y => hno ⟨hf, y⟩), Bool.and_false]; rfl
          rw [hr] at hp
          rw [decide_eq_false z]
          refine e_walk (stops := []) 20 ?_
          exact And.intro (fun _ => hp) (fun c => absurd rfl c)
      refine e_walk (stops := [31, 42]) 20 ?_
      refine And.intro (fun c => ?_) (fun c => ?_)
      · have c : f at0 = 59 := c
        have e : at0 = q_end f ln s := Decidable.byContradiction fun y => q_no59 (ln := ln) (s := s) h1 (by omega) c
        refine q_X3_wholeWord hT h1 (by omega) ?_
        cases hf : q_fin f ln s with
        | true =>
          have hw : q_wh f ln s at0 = true := by unfold q_wh; rw [hf, decide_eq_true e]; rfl
          have h6 := q_fin_lt hf
          rw [hw, cond_true]
          obtain ⟨n, rfl⟩ : ∃ m, n = m + 1 := ⟨n - 1, by omega⟩
          have hr : q_rd f ln (n + 1) s = q_rd f ln n (at0 + 1) := by
            rw [q_rd, hf, cond_true, ← e, decide_eq_false (show ¬ at0 = ln by omega), cond_false, decide_eq_true (show at0 < ln by omega), decide_eq_true c]; rfl
          rw [hr] at hp
          refine e_walk (stops := [4]) 30 ?_
          refine And.intro (fun c2 => absurd c2 (q_nIne (by omega))) (fun _ => ?_)
          show e_Run tb_X3_firstWrong post e_no 4 [some (aR 12 0), some (aI (nI at0 + 1)), some (aI (nI at0 + 1))] [] S 0 0
          rw [nI_1]
          exact ih (at0 + 1) (by omega) n (at0 + 1) (Nat.le_refl _) (q_end_le (by omega)).2 (by omega) hp
        | false =>
          have hw : q_wh f ln s at0 = false := by unfold q_wh; rw [hf]; rfl
          rw [hw, cond_false]
          refine e_walk (stops := [42]) 20 ?_
          refine And.intro (fun _ => ?_) (fun c2 => absurd rfl c2)
          exact any (fun _ y => by rw [hf] at y; cases y.1)
      · exact any (fun _ y => c y.2)
  unfold q_fe at h
  refine e_walk (stops := [4]) 20 ?_
  exact loop ln 0 (by omega) (ln + 1) 0 (Nat.le_refl _) (Nat.zero_le _) (by omega) h
theorem q_X3_isComplete (hT : q_T1 S 1 i f ln) (h : post (some (aI (cond (q_rd f ln (ln + 1) 0).1 1 0))) S) : w_X3_isComplete [aR 12 0] S post := by
  have h70 : ln ≤ 70 := by have := hT.2.2.2.1; omega
  have loop : ∀ d at0, at0 + d = ln → ∀ n s, s ≤ at0 → ln + 1 ≤ s + n → (∀ j, s ≤ j → j < at0 → ¬ f j = 59) → post (some (aI (cond (q_rd f ln n s).1 1 0))) S → e_Run tb_X3_isComplete post e_no 4 [some (aR 12 0), some (aI (nI s)), some (aI (nI at0))] [] S 0 0 := by
    intro d
    induction d with
    | zero =>
      intro at0 ha n s h1 hn hall hp
      obtain rfl : at0 = ln := by omega
      obtain ⟨b1, b2⟩ := q_end_le (f := f) h1
      obtain ⟨n, rfl⟩ : ∃ m, n = m + 1 := ⟨n - 1, by omega⟩
      refine e_walk (stops := [12]) 20 ?_
      refine q_J4_length hT ?_
      refine e_walk (stops := [20]) 20 ?_
      refine And.intro (fun c => absurd c (Int32.lt_irrefl)) (fun _ => ?_)
      refine q_X3_isEndOfPart hT (Nat.le_refl _) ?_
      rw [decide_eq_true rfl, Bool.true_or]
      refine e_walk (stops := [29]) 20 ?_
      refine And.intro (fun c => absurd c (by decide)) (fun _ => ?_)
      refine q_X3_wholeWord hT h1 (Nat.le_refl _) ?_
      cases hw : q_wh f at0 s at0 with
      | true =>
        have hw2 := hw
        unfold q_wh at hw2
        rw [Bool.and_eq_true, decide_eq_true_eq] at hw2
        have h6 := q_fin_lt hw2.1
        have hr : (q_rd f at0 (n + 1) s).1 = true := by rw [q_rd, hw2.1, cond_true, ← hw2.2, decide_eq_true rfl]; rfl
        rw [hr] at hp
        refine e_walk (stops := [4]) 20 ?_
        refine And.intro (fun c => absurd c (q_nIne (by omega))) (fun _ => ?_)
        refine e_walk (stops := [12]) 20 ?_
        refine q_J4_length hT ?_
        refine e_walk (stops := []) 20 ?_
        refine And.intro (fun _ => hp) (fun c => absurd ?_ c)
        show nI at0 < nI at0 + 1
        rw [nI_1]
        exact nI_lt (by omega) (by omega)
      | false =>
        have hr : (q_rd f at0 (n + 1) s).1 = false := by
          rw [q_rd]
          cases hf : q_fin f at0 s with
          | false => rfl
          | true =>
            have ne : ¬ at0 = q_end f at0 s := fun y => by unfold q_wh at hw; rw [hf, decide_eq_true y] at hw; cases hw
            rw [cond_true, decide_eq_false (fun y => ne y.symm), cond_false, decide_eq_true (show q_end f at0 s < at0 by omega), decide_eq_false (hall _ b2 (by omega))]; rfl
        rw [hr] at hp
        refine e_walk (stops := []) 20 ?_
        exact And.intro (fun _ => hp) (fun c => absurd rfl c)
    | succ d ih =>
      intro at0 ha n s h1 hn hall hp
      obtain ⟨b1, b2⟩ := q_end_le (f := f) (ln := ln) (p := s) (by omega)
      refine e_walk (stops := [12]) 20 ?_
      refine q_J4_length hT ?_
      refine e_walk (stops := [20]) 20 ?_
      refine And.intro (fun c => absurd ((nI_ltI (by omega) (by omega)).mp c) (by omega)) (fun _ => ?_)
      refine q_X3_isEndOfPart hT (by omega) ?_
      rw [decide_eq_false (show ¬ at0 = ln by omega), Bool.false_or]
      by_cases c : f at0 = 59
      · rw [decide_eq_true c]
        refine e_walk (stops := [29]) 20 ?_
        refine And.intro (fun c => absurd c (by decide)) (fun _ => ?_)
        refine q_X3_wholeWord hT h1 (by omega) ?_
        obtain ⟨n, rfl⟩ : ∃ m, n = m + 1 := ⟨n - 1, by omega⟩
        cases hw : q_wh f ln s at0 with
        | true =>
          have hw2 := hw
          unfold q_wh at hw2
          rw [Bool.and_eq_true, decide_eq_true_eq] at hw2
          have h6 := q_fin_lt hw2.1
          have hr : q_rd f ln (n + 1) s = q_rd f ln n (at0 + 1) := by
            rw [q_rd, hw2.1, cond_true, ← hw2.2, decide_eq_false (show ¬ at0 = ln by omega), cond_false, decide_eq_true (show at0 < ln by omega), decide_eq_true c]; rfl
          rw [hr] at hp
          refine e_walk (stops := [4]) 20 ?_
          refine And.intro (fun c => absurd c (q_nIne (by omega))) (fun _ => ?_)
          show e_Run tb_X3_isComplete post e_no 4 [some (aR 12 0), some (aI (nI at0 + 1)), some (aI (nI at0 + 1))] [] S 0 0
          rw [nI_1]
          exact ih (at0 + 1) (by omega) n (at0 + 1) (Nat.le_refl _) (by omega) (fun j a c => by omega) hp
        | false =>
          have hr : (q_rd f ln (n + 1) s).1 = false := by
            rw [q_rd]
            cases hf : q_fin f ln s with
            | false => rfl
            | true =>
              have ne : ¬ at0 = q_end f ln s := fun y => by unfold q_wh at hw; rw [hf, decide_eq_true y] at hw; cases hw
              have lt : q_end f ln s < at0 := by
                rcases Nat.lt_trichotomy (q_end f ln s) at0 with y | y | y
                · exact y
                · exact absurd y.symm ne
                · exact absurd c (q_no59 h1 y)
              rw [cond_true, decide_eq_false (show ¬ q_end f ln s = ln by omega), cond_false, decide_eq_false (hall _ b2 lt), Bool.and_false]; rfl
          rw [hr] at hp
          refine e_walk (stops := []) 20 ?_
          exact And.intro (fun _ => hp) (fun c => absurd rfl c)
      · rw [decide_eq_false c]
        refine e_walk (stops := [4]) 20 ?_
        refine And.intro (fun _ => ?_) (fun c => absurd rfl c)
        show e_Run tb_X3_isComplete post e_no 4 [some (aR 12 0), some (aI (nI s)), some (aI (nI at0 + 1))] [] S 0 0
        rw [nI_1]
        refine ih (at0 + 1) (by omega) n s (by omega) hn (fun j a d => ?_) hp
        by_cases y : j = at0
        · subst y
          exact c
        · exact hall j a (by omega)
  refine e_walk (stops := [4]) 20 ?_
  exact loop ln 0 (by omega) (ln + 1) 0 (Nat.le_refl _) (by omega) (fun j _ c => absurd c (Nat.not_lt_zero j)) h
end Texts
