/-! What walks come to: whom a lesson helps; the hash's parts of the system. Own work. -/
section Helps
variable {S S1 S2 : eM} {post : eQ} {v v2 : qV} {B b np ni nl : Nat}
theorem q_could_cg {p m k : Nat} (e1 : q_of v2 p 1 = q_of v p 1) (e2 : q_of v2 p 2 = q_of v p 2) (e4 : q_of v2 p 4 = q_of v p 4) (ei : ∀ i, q_its v2 i 0 = q_its v i 0 ∧ q_its v2 i 1 = q_its v i 1) : q_could v2 p m k = q_could v p m k := by
  have eh : q_has v2 p = q_has v p := by unfold q_has; rw [e4]
  unfold q_could q_plays
  rw [eh, (ei _).1, (ei _).2, e1, e2]
theorem q_bst_cg {m k : Nat} {tk : Int32} (hnp : np ≤ 10) (hc : ∀ p, p < np → q_could v2 p m k = q_could v p m k) (hl : ∀ p, p < np → q_of v2 p 2 = q_of v p 2) (n : Nat) (hn : n ≤ np) : q_bst v2 m k tk n = q_bst v m k tk n := by
  induction n with
  | zero => rfl
  | succ n ih =>
    have ih := ih (by omega)
    rw [q_bst, q_bst, ih, hc n (by omega), hl n (by omega)]
    rcases q_bst_cases v m k tk n with z | ⟨j, hj, z⟩
    · rw [decide_eq_true z, Bool.true_or, Bool.true_or]
    · rw [z, nI_clamp (by omega), hl j (by omega)]
theorem q_tk_cg {m : Nat} (hnp : np ≤ 10) (hc : ∀ k p, p < np → q_could v2 p m k = q_could v p m k) (hl : ∀ p, p < np → q_of v2 p 2 = q_of v p 2) : ∀ k, q_tk v2 m np k = q_tk v m np k
  | 0 => rfl
  | k + 1 => by
    have ih := q_tk_cg (m := m) hnp hc hl k
    rw [q_tk, q_tk, ih, q_bst_cg hnp (hc k) hl np (Nat.le_refl _)]
theorem q_pl_cg {m : Nat} (hnp : np ≤ 10) (hc : ∀ k p, p < np → q_could v2 p m k = q_could v p m k) (hl : ∀ p, p < np → q_of v2 p 2 = q_of v p 2) (k : Nat) : q_pl v2 m np k = q_pl v m np k := by
  unfold q_pl
  rw [q_tk_cg hnp hc hl k, q_bst_cg hnp (hc k) hl np (Nat.le_refl _)]
theorem q_sh_cg {m : Nat} (hnp : np ≤ 10) (hc : ∀ k p, p < np → q_could v2 p m k = q_could v p m k) (hl : ∀ p, p < np → q_of v2 p 2 = q_of v p 2) : ∀ k, q_sh v2 m np k = q_sh v m np k
  | 0 => rfl
  | k + 1 => by rw [q_sh, q_sh, q_sh_cg hnp hc hl k, q_pl_cg hnp hc hl k]
/-- the row behind a lesson for a look -/
def q_lsn (v : qV) (p : Nat) : qV := upd (upd v (16 + 7 * p + 2) (q_of v p 2 + 1)) (16 + 7 * p + 1) (q_of v p 1 - (3 + q_its v (q_has v p - 1) 0))
theorem q_sh_lsn {m p t : Nat} (hnp : np ≤ 10) (pp : p < np) : q_sh (q_lsn v p) m np 4 = q_sh (q_teach v p t) m np 4 := by
  have e : ∀ j, j ≠ 16 + 7 * p + 5 → j ≠ 5 → j ≠ 11 → j ≠ 8 → q_lsn v p j = q_teach v p t j := fun j a b c d => by
    unfold q_lsn q_teach
    rw [q_un d, q_un c, q_un b, q_un a, q_subadd]
  refine q_sh_cg hnp (fun k q qq => ?_) (fun q qq => e _ (by omega) (by omega) (by omega) (by omega)) 4
  exact q_could_cg (e _ (by omega) (by omega) (by omega) (by omega)) (e _ (by omega) (by omega) (by omega) (by omega)) (e _ (by omega) (by omega) (by omega) (by omega)) (fun i => ⟨e _ (by omega) (by omega) (by omega) (by omega), e _ (by omega) (by omega) (by omega) (by omega)⟩)
theorem q_B_learn {p : Nat} {x y : Int32} (hnp : np ≤ 10) (hni : ni ≤ 10) (hnl : nl ≤ 10) (hB : q_B S b v np ni nl) (pp : p < np) : q_B (sI (sI S 2 (10 * b + p) 2 x) 2 (10 * b + p) 1 y) b (upd (upd v (16 + 7 * p + 2) x) (16 + 7 * p + 1) y) np ni nl := by
  refine ⟨?_, fun j hj => ?_, fun j hj => ?_, fun p2 q => ?_, fun i2 q => ?_, fun k q => ?_, fun p2 q => ?_⟩
  · obtain ⟨a1, a2, a3, a4, a5⟩ := hB.1
    simp (disch := omega) only [q_s_ne, q_s_eq, q_un, q_uq]
    exact ⟨a1, a2, a3, a4, a5⟩
  · have := hB.2.1 j hj
    simp (disch := omega) only [q_s_ne, q_s_eq, q_un, q_uq]
    exact this
  · have := hB.2.2.1 j hj
    simp (disch := omega) only [q_s_ne, q_s_eq, q_un, q_uq]
    exact this
  · obtain ⟨b0, b1, b2, b3, b4, b5, b6⟩ := hB.pl q
    unfold q_of at b0 b1 b2 b3 b4 b5 b6
    by_cases hp2 : p2 = p
    · subst hp2
      unfold q_P q_of
      simp (disch := omega) only [q_s_ne, q_s_eq, q_un, q_uq]
      refine ⟨?_, ?_, ?_, ?_, ?_, ?_, ?_⟩ <;> first | trivial | assumption
    · unfold q_P q_of
      simp (disch := omega) only [q_s_ne, q_s_eq, q_un, q_uq]
      exact ⟨b0, b1, b2, b3, b4, b5, b6⟩
  · have := hB.it q
    unfold q_I q_its at this
    unfold q_I q_its
    simp (disch := omega) only [q_s_ne, q_s_eq, q_un, q_uq]
    exact this
  · have := hB.2.2.2.2.2.1 k q
    simp (disch := omega) only [q_s_ne, q_s_eq, q_un, q_uq]
    exact this
  · have := hB.2.2.2.2.2.2 p2 q
    simp (disch := omega) only [q_s_ne, q_s_eq]
    exact this
theorem q_X4_helper {m t : Nat} (hi : q_inv B v np ni nl) (hB : q_B S 0 v np ni nl) (hm : m < 4) (ht : t < 3) (h : ∀ S2, q_f1 9 0 S S2 → post (some (aI (q_hl v m np t np 0))) S2) : w_X4_helper [aR 0 0, aI (nI m), aI (nI t)] S post := by
  have hnp := hi.1.1
  have hni := hi.1.2.1
  have hnl := hi.1.2.2.1
  have hsl := q_sh_le v m np 4
  have loop : ∀ d p, p + d = np → ∀ S1, q_f1 9 0 S S1 → (∀ S2, q_f1 9 0 S S2 → post (some (aI (q_hl v m np t d p))) S2) → ∀ l5 l6 l7, e_Run tb_X4_helper post e_no 9 [some (aR 0 0), some (aI (nI m)), some (aI (nI t)), some (aI (nI (q_sh v m np 4))), some (aI (nI p)), l5, l6, l7] [] S1 0 0 := by
    intro d
    induction d with
    | zero =>
      intro p hp S1 f1 hq l5 l6 l7
      obtain rfl : p = np := by omega
      refine e_walk (stops := [18]) 20 ?_
      show e_Run tb_X4_helper post e_no 18 [some (aR 0 0), some (aI (nI m)), some (aI (nI t)), some (aI (nI (q_sh v m p 4))), some (aI (nI p)), l5, l6, l7] [aI (mI S1 1 0 1), aI (nI p)] S1 0 0
      rw [(hB.f9 f1).1.1]
      refine e_walk (stops := []) 20 ?_
      exact And.intro (fun _ => hq S1 f1) (fun c => absurd (Int32.le_refl _) c)
    | succ d ih =>
      intro p hp S1 f1 hq l5 l6 l7
      have hB1 := hB.f9 f1
      rw [q_hl] at hq
      have next : q_hp v m np t p = false → ∀ S2, q_f1 9 0 S S2 → ∀ l5 l6 l7, e_Run tb_X4_helper post e_no 94 [some (aR 0 0), some (aI (nI m)), some (aI (nI t)), some (aI (nI (q_sh v m np 4))), some (aI (nI p)), l5, l6, l7] [] S2 0 0 := fun z S2 f2 l5 l6 l7 => by
        rw [z] at hq
        refine e_walk (stops := [9]) 20 ?_
        show e_Run tb_X4_helper post e_no 9 [some (aR 0 0), some (aI (nI m)), some (aI (nI t)), some (aI (nI (q_sh v m np 4))), some (aI (nI p + 1)), l5, l6, l7] [] S2 0 0
        rw [nI_1]
        exact ih (p + 1) (by omega) S2 f2 hq l5 l6 l7
      refine e_walk (stops := [18]) 20 ?_
      show e_Run tb_X4_helper post e_no 18 [some (aR 0 0), some (aI (nI m)), some (aI (nI t)), some (aI (nI (q_sh v m np 4))), some (aI (nI p)), l5, l6, l7] [aI (mI S1 1 0 1), aI (nI p)] S1 0 0
      rw [hB1.1.1]
      refine e_walk (stops := [30]) 20 ?_
      refine And.intro (fun c => absurd c (nI_ge (a := p) (b := np) (by omega) (by omega))) (fun _ => ?_)
      refine q_X0_pupilAt hB1.1.1 hnp (fun p' pp e => ?_) (fun z => absurd z (by rw [q_ix_mk (by omega) (show p < np by omega)]; decide))
      have : p = p' := (nI_eq (by omega) (by omega)).mp e
      subst this
      refine e_walk (stops := [47]) 20 ?_
      refine q_X0_whyNoLesson hi hB1 pp ht ?_
      have hle := q_whyLesson_le v p t
      refine e_walk (stops := [50, 94]) 20 ?_
      refine And.intro (fun c => ?_) (fun c => ?_)
      · have c : q_whyLesson v p t = 0 := (nI_eq (b := 0) (by omega) (by decide)).mp c
        obtain ⟨w1, w2, w3, w4⟩ := q_whyLesson_all c
        obtain ⟨i0, k0, i01, i02, i03, i04, i05, i06⟩ := hi.plays pp w1
        obtain ⟨p0, p1, p2, p3, p4, p5, p6⟩ := hB1.pl pp
        refine e_walk (stops := [59]) 20 ?_
        refine q_X0_breathOfLesson hi hB1 pp (q_plays_pos w1) ?_
        refine e_walk (stops := [69]) 20 ?_
        refine q_X2_learn ?_
        have hlr := q_B_learn (x := mI S1 2 (10 * 0 + p) 2 + 1) (y := mI S1 2 (10 * 0 + p) 1 - (3 + q_its v (q_has v p - 1) 0)) hnp hni hnl hB1 pp
        rw [p1, p2] at hlr
        rw [p1, p2]
        have hl2 : q_lips (q_lsn v p) np := fun q qq => by
          by_cases hqp : q = p
          · subst hqp
            obtain ⟨a, bb, cc, dd, ⟨e1, e2, e3, e4⟩, g, -⟩ := hi.2.1 q qq
            refine ⟨cc + 1, by omega, ?_⟩
            unfold q_lsn
            rw [q_of, q_un (by omega), q_ue, e3, nI_1]
          · obtain ⟨cc, h1, h2⟩ := hi.lips q qq
            exact ⟨cc, h1, by unfold q_lsn; rw [q_of, q_un (by omega), q_un (by omega)]; exact h2⟩
        have hv2 : q_ok0 (q_lsn v p) np ni := (hi.ok0.upd (k := 16 + 7 * p + 2) (by omega) (fun _ _ => by omega)).upd (by omega) (fun _ _ => by omega)
        refine e_walk (stops := [74]) 20 ?_
        refine q_X4_fillLineUp hv2 hl2 hlr hm (fun S3 f3 _ => ?_)
        rw [q_sh_lsn (t := t) hnp pp]
        have hsl2 := q_sh_le (q_teach v p t) m np 4
        have g1 : mI S3 2 (10 * 0 + p) 1 = q_of v p 1 - (3 + q_its v (q_has v p - 1) 0) := by rw [f3.1 2 _ (by omega), q_s_self]
        have g2 : mI S3 2 (10 * 0 + p) 2 = q_of v p 2 + 1 := by rw [f3.1 2 _ (by omega), q_s_ne (by omega), q_s_self]
        refine e_walk (stops := [85]) 20 ?_
        refine q_X2_learn ?_
        rw [g1, g2]
        have r1 : q_of v p 1 - (3 + q_its v (q_has v p - 1) 0) - -(3 + q_its v (q_has v p - 1) 0) = q_of v p 1 := by rw [Int32.sub_neg, Int32.sub_add_cancel]
        have r2 : q_of v p 2 + 1 + -1 = q_of v p 2 := by rw [Int32.add_assoc, show (1 : Int32) + -1 = 0 by decide, Int32.add_zero]
        rw [r1, r2]
        have f4 : q_f1 9 0 S (sI (sI S3 2 (10 * 0 + p) 2 (q_of v p 2)) 2 (10 * 0 + p) 1 (q_of v p 1)) := by
          refine ⟨fun k i hk => funext fun j => ?_, f3.2.1.trans f1.2.1, f3.2.2.trans f1.2.2⟩
          rw [← f1.1 k i hk]
          by_cases h1 : k = 2 ∧ i = 10 * 0 + p
          · obtain ⟨rfl, rfl⟩ := h1
            by_cases j1 : j = 1
            · subst j1
              rw [q_s_self, p1]
            · rw [q_s_ne (by omega)]
              by_cases j2 : j = 2
              · subst j2
                rw [q_s_self, p2]
              · rw [q_s_ne (by omega), f3.1 2 _ (by omega), q_s_ne (by omega), q_s_ne (by omega)]
          · rw [q_s_ne (fun z => h1 ⟨z.1, z.2.1⟩), q_s_ne (fun z => h1 ⟨z.1, z.2.1⟩), f3.1 k i hk, q_s_ne (fun z => h1 ⟨z.1, z.2.1⟩), q_s_ne (fun z => h1 ⟨z.1, z.2.1⟩)]
        refine e_walk (stops := [94]) 20 ?_
        refine And.intro (fun c2 => ?_) (fun c2 => ?_)
        · have c2 : ¬ q_sh (q_teach v p t) m np 4 < q_sh v m np 4 := Nat.not_lt.mpr ((nI_leI (by omega) (by omega)).mp c2)
          exact next (by unfold q_hp; rw [decide_eq_false c2, Bool.and_false]) _ f4 _ _ _
        · have c2 : q_sh (q_teach v p t) m np 4 < q_sh v m np 4 := Nat.lt_of_not_le (fun z => c2 (nI_le z (by omega)))
          have hh : q_hp v m np t p = true := by unfold q_hp; rw [decide_eq_true c, decide_eq_true c2]; rfl
          rw [hh] at hq
          exact hq _ f4
      · have c : ¬ q_whyLesson v p t = 0 := fun z => c (by rw [z]; rfl)
        exact next (by unfold q_hp; rw [decide_eq_false c, Bool.false_and]) _ f1 _ _ _
  refine e_walk (stops := [5]) 20 ?_
  refine q_X4_fillLineUp hi.ok0 hi.lips hB hm (fun S1 f1 _ => ?_)
  refine e_walk (stops := [9]) 20 ?_
  exact loop np 0 (by omega) S1 f1 h _ _ _
theorem q_X4_mix {x y : Int64} (h : post (some (aL (q_mx x y))) S) : w_X4_mix [aL x, aL y] S post := e_walk (stops := []) 20 h
theorem q_X4_mixPupils {x : Int64} (hi : q_inv B v np ni nl) (hB : q_B S 0 v np ni nl) (h : post (some (aL (q_fold (q_pg v) (10 * np) x))) S) : w_X4_mixPupils [aR 0 0, aL x] S post := by
  have hnp := hi.1.1
  have outer : ∀ d n, n + d = np → ∀ l6 l7, e_Run tb_X4_mixPupils post e_no 5 [some (aR 0 0), some (aL x), none, some (aL (q_fold (q_pg v) (10 * n) x)), none, some (aI (nI n)), l6, l7] [] S 0 0 := by
    intro d
    induction d with
    | zero =>
      intro n hn l6 l7
      obtain rfl : n = np := by omega
      refine e_walk (stops := [14]) 20 ?_
      show e_Run tb_X4_mixPupils post e_no 14 [some (aR 0 0), some (aL x), none, some (aL (q_fold (q_pg v) (10 * n) x)), none, some (aI (nI n)), l6, l7] [aI (mI S 1 0 1), aI (nI n)] S 0 0
      rw [hB.1.1]
      refine e_walk (stops := []) 20 ?_
      exact And.intro (fun _ => h) (fun c => absurd (Int32.le_refl _) c)
    | succ d ih =>
      intro n hn l6 l7
      refine e_walk (stops := [14]) 20 ?_
      show e_Run tb_X4_mixPupils post e_no 14 [some (aR 0 0), some (aL x), none, some (aL (q_fold (q_pg v) (10 * n) x)), none, some (aI (nI n)), l6, l7] [aI (mI S 1 0 1), aI (nI n)] S 0 0
      rw [hB.1.1]
      refine e_walk (stops := [26]) 20 ?_
      refine And.intro (fun c => absurd c (nI_ge (a := n) (b := np) (by omega) (by omega))) (fun _ => ?_)
      refine q_X0_pupilAt hB.1.1 hnp (fun p pp e => ?_) (fun z => absurd z (by rw [q_ix_mk (by omega) (show n < np by omega)]; decide))
      have : n = p := (nI_eq (by omega) (by omega)).mp e
      subst this
      obtain ⟨a, bb, cc, dd, ⟨e1, e2, e3, e4⟩, g, g5, -⟩ := hi.2.1 n pp
      have second : ∀ f k, k + f = 3 → e_Run tb_X4_mixPupils post e_no 65 [some (aR 0 0), some (aL x), none, some (aL (q_fold (q_pg v) (10 * n + 7 + k) x)), none, some (aI (nI n)), some (aR 2 (10 * 0 + n)), some (aI (nI k))] [] S 0 0 := by
        intro f
        induction f with
        | zero =>
          intro k hk
          obtain rfl : k = 3 := by omega
          refine e_walk (stops := [5]) 20 ?_
          refine And.intro (fun _ => ?_) (fun c => absurd (by decide) c)
          show e_Run tb_X4_mixPupils post e_no 5 [some (aR 0 0), some (aL x), none, some (aL (q_fold (q_pg v) (10 * (n + 1)) x)), none, some (aI (nI n + 1)), some (aR 2 (10 * 0 + n)), some (aI (nI 3))] [] S 0 0
          rw [nI_1]
          exact ih (n + 1) (by omega) _ _
        | succ f ihf =>
          intro k hk
          have ihf := ihf (k + 1) (by omega)
          refine e_walk (stops := [83]) 20 ?_
          refine And.intro (fun c => absurd c (nI_ge (a := k) (b := 3) (by omega) (by decide))) (fun _ => ?_)
          refine q_X0_whyNoLesson hi hB pp (by omega) ?_
          refine e_walk (stops := [87]) 20 ?_
          refine q_X4_mix ?_
          refine e_walk (stops := [65]) 20 ?_
          have eg : q_pg v (10 * n + 7 + k) = (nI (q_whyLesson v n k)).toInt64 := by
            unfold q_pg
            rw [if_neg (by omega), show (10 * n + 7 + k) / 10 = n by omega, show (10 * n + 7 + k) % 10 - 7 = k by omega]
          rw [← eg]
          show e_Run tb_X4_mixPupils post e_no 65 [some (aR 0 0), some (aL x), none, some (aL (q_fold (q_pg v) (10 * n + 7 + (k + 1)) x)), none, some (aI (nI n)), some (aR 2 (10 * 0 + n)), some (aI (nI k + 1))] [] S 0 0
          rw [nI_1]
          exact ihf
      have first : ∀ f k, k + f = 7 → e_Run tb_X4_mixPupils post e_no 36 [some (aR 0 0), some (aL x), none, some (aL (q_fold (q_pg v) (10 * n + k) x)), none, some (aI (nI n)), some (aR 2 (10 * 0 + n)), some (aI (nI k))] [] S 0 0 := by
        intro f
        induction f with
        | zero =>
          intro k hk
          obtain rfl : k = 7 := by omega
          refine e_walk (stops := [65]) 20 ?_
          refine And.intro (fun _ => ?_) (fun c => absurd (by decide) c)
          exact second 3 0 rfl
        | succ f ihf =>
          intro k hk
          have ihf := ihf (k + 1) (by omega)
          refine e_walk (stops := [51]) 20 ?_
          refine And.intro (fun c => absurd c (nI_ge (a := k) (b := 7) (by omega) (by decide))) (fun _ => ?_)
          refine q_X2_number (hB.pl pp) g5 (by omega) ?_
          refine e_walk (stops := [55]) 20 ?_
          refine q_X4_mix ?_
          refine e_walk (stops := [36]) 20 ?_
          have eg : q_pg v (10 * n + k) = (q_pTold v n k).toInt64 := by
            unfold q_pg
            rw [if_pos (by omega), show (10 * n + k) / 10 = n by omega, show (10 * n + k) % 10 = k by omega]
          rw [← eg]
          show e_Run tb_X4_mixPupils post e_no 36 [some (aR 0 0), some (aL x), none, some (aL (q_fold (q_pg v) (10 * n + (k + 1)) x)), none, some (aI (nI n)), some (aR 2 (10 * 0 + n)), some (aI (nI k + 1))] [] S 0 0
          rw [nI_1]
          exact ihf
      refine e_walk (stops := [36]) 20 ?_
      exact first 7 0 rfl
  refine e_walk (stops := [5]) 20 ?_
  exact outer np 0 (by omega) _ _
theorem q_X4_mixInstruments {x : Int64} (hi : q_inv B v np ni nl) (hB : q_B S 0 v np ni nl) (h : post (some (aL (q_fold (fun k => (q_iTold v (k / 6) (k % 6)).toInt64) (6 * ni) x))) S) : w_X4_mixInstruments [aR 0 0, aL x] S post := by
  have hni := hi.1.2.1
  have eg : ∀ n k, k < 6 → (fun k => (q_iTold v (k / 6) (k % 6)).toInt64) (6 * n + k) = (q_iTold v n k).toInt64 := fun n k hk => by
    show (q_iTold v ((6 * n + k) / 6) ((6 * n + k) % 6)).toInt64 = _
    rw [show (6 * n + k) / 6 = n by omega, show (6 * n + k) % 6 = k by omega]
  generalize (fun k => (q_iTold v (k / 6) (k % 6)).toInt64) = gg at *
  have outer : ∀ d n, n + d = ni → ∀ l6 l7, e_Run tb_X4_mixInstruments post e_no 5 [some (aR 0 0), some (aL x), none, some (aL (q_fold gg (6 * n) x)), none, some (aI (nI n)), l6, l7] [] S 0 0 := by
    intro d
    induction d with
    | zero =>
      intro n hn l6 l7
      obtain rfl : n = ni := by omega
      refine e_walk (stops := [14]) 20 ?_
      show e_Run tb_X4_mixInstruments post e_no 14 [some (aR 0 0), some (aL x), none, some (aL (q_fold gg (6 * n) x)), none, some (aI (nI n)), l6, l7] [aI (mI S 1 0 3), aI (nI n)] S 0 0
      rw [hB.1.2.1]
      refine e_walk (stops := []) 20 ?_
      exact And.intro (fun _ => h) (fun c => absurd (Int32.le_refl _) c)
    | succ d ih =>
      intro n hn l6 l7
      refine e_walk (stops := [14]) 20 ?_
      show e_Run tb_X4_mixInstruments post e_no 14 [some (aR 0 0), some (aL x), none, some (aL (q_fold gg (6 * n) x)), none, some (aI (nI n)), l6, l7] [aI (mI S 1 0 3), aI (nI n)] S 0 0
      rw [hB.1.2.1]
      refine e_walk (stops := [26]) 20 ?_
      refine And.intro (fun c => absurd c (nI_ge (a := n) (b := ni) (by omega) (by omega))) (fun _ => ?_)
      refine q_X0_instrumentAt hB.1.2.1 hni (fun p pp e => ?_) (fun z => absurd z (by rw [q_ix_mk (by omega) (show n < ni by omega)]; decide))
      have : n = p := (nI_eq (by omega) (by omega)).mp e
      subst this
      have first : ∀ f k, k + f = 6 → e_Run tb_X4_mixInstruments post e_no 36 [some (aR 0 0), some (aL x), none, some (aL (q_fold gg (6 * n + k) x)), none, some (aI (nI n)), some (aR 3 (10 * 0 + n)), some (aI (nI k))] [] S 0 0 := by
        intro f
        induction f with
        | zero =>
          intro k hk
          obtain rfl : k = 6 := by omega
          refine e_walk (stops := [5]) 20 ?_
          refine And.intro (fun _ => ?_) (fun c => absurd (by decide) c)
          show e_Run tb_X4_mixInstruments post e_no 5 [some (aR 0 0), some (aL x), none, some (aL (q_fold gg (6 * (n + 1)) x)), none, some (aI (nI n + 1)), some (aR 3 (10 * 0 + n)), some (aI (nI 6))] [] S 0 0
          rw [nI_1]
          exact ih (n + 1) (by omega) _ _
        | succ f ihf =>
          intro k hk
          have ihf := ihf (k + 1) (by omega)
          refine e_walk (stops := [51]) 20 ?_
          refine And.intro (fun c => absurd c (nI_ge (a := k) (b := 6) (by omega) (by decide))) (fun _ => ?_)
          refine q_X1_number (hB.it pp) (by omega) ?_
          refine e_walk (stops := [55]) 20 ?_
          refine q_X4_mix ?_
          refine e_walk (stops := [36]) 20 ?_
          rw [← eg n k (by omega)]
          show e_Run tb_X4_mixInstruments post e_no 36 [some (aR 0 0), some (aL x), none, some (aL (q_fold gg (6 * n + (k + 1)) x)), none, some (aI (nI n)), some (aR 3 (10 * 0 + n)), some (aI (nI k + 1))] [] S 0 0
          rw [nI_1]
          exact ihf
      refine e_walk (stops := [36]) 20 ?_
      exact first 6 0 rfl
  refine e_walk (stops := [5]) 20 ?_
  exact outer ni 0 (by omega) _ _
/-- the bits of a share, of the system -/
theorem q_sh52 : ∀ n, n < 22 → ((1023 : Int64) - Int64.ofNat n) * 4503599627370496 = ((1023 : Int64) - Int64.ofNat n) <<< ((52 : Int32).toInt64 &&& 63) := by decide +kernel
theorem q_bend4 {m : Nat} {k : Int} {n : Nat} {x0 : UInt64} {y : Int32} (hk : fp_ok m k) (hn : n < 22) (h : post (some (aL (q_bf ((1023 : Int64) - Int64.ofNat n) (fp_n m k)))) S) : e_Run tb_X4_bitsOfShare post e_no 51 [some (aD x0), none, some (aL ((1023 : Int64) - Int64.ofNat n)), none, some (aD (fp_n m k)), none, some (aI y)] [] S 0 0 := by
  have h1 : vf_n64 (FP.dsub (fp_n m k) 4607182418800017408) := fp_subnn (fp_dec hk) fp_one
  unfold q_bf at h
  rw [q_sh52 n hn] at h
  refine e_walk (stops := []) 20 ?_
  exact And.intro h1 (And.intro (fp_mulbig h1) h)
theorem q_bloop4 {m : Nat} {x0 : UInt64} : ∀ (n N j : Nat) (k : Int), fp_ok m k → -73 ≤ k → k ≤ -31 → -52 ≤ k + n → n + j ≤ 21 → N + j = 1000 → post (some (aL (q_bl N ((1023 : Int64) - Int64.ofNat j) (fp_n m k)))) S → e_Run tb_X4_bitsOfShare post e_no 18 [some (aD x0), none, some (aL ((1023 : Int64) - Int64.ofNat j)), none, some (aD (fp_n m k)), none, some (aI (nI j))] [] S 0 0 := by
  have ge : ∀ (N j : Nat) (k : Int), fp_ok m k → -52 ≤ k → j < 22 → post (some (aL (q_bl N ((1023 : Int64) - Int64.ofNat j) (fp_n m k)))) S → e_Run tb_X4_bitsOfShare post e_no 18 [some (aD x0), none, some (aL ((1023 : Int64) - Int64.ofNat j)), none, some (aD (fp_n m k)), none, some (aI (nI j))] [] S 0 0 := by
    intro N j k hk h52 hj h
    have hb : q_bl N ((1023 : Int64) - Int64.ofNat j) (fp_n m k) = q_bf ((1023 : Int64) - Int64.ofNat j) (fp_n m k) := by
      cases N with
      | zero => rfl
      | succ N =>
        rw [q_bl, decide_eq_false, cond_false]
        rcases fp_ge1 hk h52 with z | z <;> rw [z] <;> decide
    rw [hb] at h
    refine e_walk (stops := [26]) 20 ?_
    refine And.intro (fun c => absurd c (nI_ge (a := j) (b := 1000) (by omega) (by decide))) (fun _ => ?_)
    refine e_walk (stops := [30]) 20 ?_
    show e_Run tb_X4_bitsOfShare post e_no 30 _ [aI (Op.cmpValue (FP.dcmp (fp_n m k) 4607182418800017408) .g)] S 0 0
    rcases fp_ge1 hk h52 with z | z <;> rw [z]
    · refine e_walk (stops := [51]) 20 ?_
      exact And.intro (fun _ => q_bend4 hk hj h) (fun c => absurd (by decide) c)
    · refine e_walk (stops := [51]) 20 ?_
      exact And.intro (fun _ => q_bend4 hk hj h) (fun c => absurd (by decide) c)
  intro n
  induction n with
  | zero => intro N j k hk _ _ h52 hj _ h; exact ge N j k hk (by omega) (by omega) h
  | succ n ih =>
    intro N j k hk h73 h31 h52 hj hN h
    by_cases z : -52 ≤ k
    · exact ge N j k hk z (by omega) h
    · obtain ⟨N, rfl⟩ : ∃ M, N = M + 1 := ⟨N - 1, by omega⟩
      have hlt := fp_lt1 hk (show k < -52 by omega)
      have h2 := fp_mul2 hk (by omega)
      have hp : (1023 : Int64) - Int64.ofNat j - 1 = (1023 : Int64) - Int64.ofNat (j + 1) := by
        have key : ∀ j, j < 22 → (1023 : Int64) - Int64.ofNat j - 1 = (1023 : Int64) - Int64.ofNat (j + 1) := by decide +kernel
        exact key j (by omega)
      rw [q_bl, decide_eq_true hlt, cond_true, h2, hp] at h
      have hk2 : fp_ok m (k + 1) := ⟨hk.1, hk.2.1, by omega, by omega⟩
      refine e_walk (stops := [26]) 20 ?_
      refine And.intro (fun c => absurd c (nI_ge (a := j) (b := 1000) (by omega) (by decide))) (fun _ => ?_)
      refine e_walk (stops := [30]) 20 ?_
      show e_Run tb_X4_bitsOfShare post e_no 30 _ [aI (Op.cmpValue (FP.dcmp (fp_n m k) 4607182418800017408) .g)] S 0 0
      rw [hlt]
      refine e_walk (stops := [39]) 20 ?_
      refine And.intro (fun c => absurd c (by decide)) (fun _ => ?_)
      refine And.intro (fp_mulnn (fp_dec hk) fp_two) ?_
      show e_Run tb_X4_bitsOfShare post e_no 39 [some (aD x0), none, some (aL ((1023 : Int64) - Int64.ofNat j)), none, some (aD (fp_n m k)), none, some (aI (nI j))] [aD (FP.dmul (fp_n m k) 4611686018427387904)] S 0 0
      rw [h2]
      refine e_walk (stops := [18]) 20 ?_
      show e_Run tb_X4_bitsOfShare post e_no 18 [some (aD x0), none, some (aL ((1023 : Int64) - Int64.ofNat j - 1)), none, some (aD (fp_n m (k + 1))), none, some (aI (nI j + 1))] [] S 0 0
      rw [hp, nI_1]
      exact ih N (j + 1) (k + 1) hk2 (by omega) (by omega) (by omega) (by omega) (by omega) h
theorem q_X4_bitsOfShare {x : UInt64} (hx : q_isS x) (h : post (some (aL (q_bits x))) S) : w_X4_bitsOfShare [aD x] S post := by
  unfold q_bits at h
  rcases hx with rfl | ⟨m, k, hk, h1, h2, rfl⟩
  · rw [decide_eq_true rfl, cond_true] at h
    refine e_walk (stops := [3]) 20 ?_
    show e_Run tb_X4_bitsOfShare post e_no 3 _ [aI (Op.cmpValue (FP.dcmp 0 0) .g)] S 0 0
    rw [show Op.cmpValue (FP.dcmp 0 0) .g = 0 by decide +kernel]
    refine e_walk (stops := []) 20 ?_
    exact And.intro (fun c => absurd c (by decide)) (fun _ => h)
  · have h0 := fp_gt0 hk
    have hne : ¬ fp_n m k = 0 := fun z => by
      rw [z] at h0
      exact absurd h0 (by decide +kernel)
    rw [decide_eq_false hne, cond_false] at h
    refine e_walk (stops := [3]) 20 ?_
    show e_Run tb_X4_bitsOfShare post e_no 3 _ [aI (Op.cmpValue (FP.dcmp (fp_n m k) 0) .g)] S 0 0
    rw [h0]
    refine e_walk (stops := [18]) 20 ?_
    refine And.intro (fun _ => ?_) (fun c => absurd (by decide) c)
    exact q_bloop4 21 1000 0 k hk h1 h2 (by omega) (by decide) (by decide) h
end Helps
