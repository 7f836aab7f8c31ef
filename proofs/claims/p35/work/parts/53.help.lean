/-! What walks come to: whom a lesson helps; the hash's parts of the system. Own work. -/
section Helps
variable {S S1 S2 : eM} {post : eQ} {v v2 : qV} {B b np ni nl : Nat}
theorem q_could_cg {p m k : Nat} (e1 : q_of v2 p 1 = q_of v p 1) (e2 : q_of v2 p 2 = q_of v p 2) (e4 : q_of v2 p 4 = q_of v p 4) (ei : ∀ i, q_its v2 i 0 = q_its v i 0 ∧ q_its v2 i 1 = q_its v i 1) : q_could v2 p m k = q_could v p m k := by
  have eh : q_has v2 p = q_has v p := by unfold q_has; rw [e4]
  unfold q_could q_plays
  rw [eh, (ei _).1, (ei _).2, e1, e2]
theorem q_bst_cg {m k : Nat} {tk : Int32} (hnp : np ≤ 10) (hc : ∀ p, p < np → q_could v2 p m k = q_could v p m k) (hl : ∀ p, p < np → q_of v2 p 2 = q_of v p 2) (n : Nat) (hn : n ≤ np) : q_bst v2 m k tk n = q_bst v m k tk n := by
  induction n with
  | zero => rfl
  | succ n ih =>
    have ih := ih (by omega)
    rw [q_bst, q_bst, ih, hc n (by omega), hl n (by omega)]
    rcases q_bst_cases v m k tk n with z | ⟨j, hj, z⟩
    · rw [decide_eq_true z, Bool.true_or, Bool.true_or]
    · rw [z, nI_clamp (by omega), hl j (by omega)]
theorem q_tk_cg {m : Nat} (hnp : np ≤ 10) (hc : ∀ k p, p < np → q_could v2 p m k = q_could v p m k) (hl : ∀ p, p < np → q_of v2 p 2 = q_of v p 2) : ∀ k, q_tk v2 m np k = q_tk v m np k
  | 0 => rfl
  | k + 1 => by
    have ih := q_tk_cg (m := m) hnp hc hl k
    rw [q_tk, q_tk, ih, q_bst_cg hnp (hc k) hl np (Nat.le_refl _)]
theorem q_pl_cg {m : Nat} (hnp : np ≤ 10) (hc : ∀ k p, p < np → q_could v2 p m k = q_could v p m k) (hl : ∀ p, p < np → q_of v2 p 2 = q_of v p 2) (k : Nat) : q_pl v2 m np k = q_pl v m np k := by
  unfold q_pl
  rw [q_tk_cg hnp hc hl k, q_bst_cg hnp (hc k) hl np (Nat.le_refl _)]
theorem q_sh_cg {m : Nat} (hnp : np ≤ 10) (hc : ∀ k p, p < np → q_could v2 p m k = q_could v p m k) (hl : ∀ p, p < np → q_of v2 p 2 = q_of v p 2) : ∀ k, q_sh v2 m np k = q_sh v m np k
  | 0 => rfl
  | k + 1 => by rw [q_sh, q_sh, q_sh_cg hnp hc hl k, q_pl_cg hnp hc hl k]
/-- the row behind a lesson for a look -/
def q_lsn (v : qV) (p : Nat) : qV := upd (upd v (16 + 7 * p + 2) (q_of v p 2 + 1)) (16 + 7 * p + 1) (q_of v p 1 - (3 + q_its v (q_has v p - 1) 0))
theorem q_sh_lsn {m p t : Nat} (hnp : np ≤ 10) (pp : p < np) : q_sh (q_lsn v p) m np 4 = q_sh (q_teach v p t) m np 4 := by
  have e : ∀ j, j ≠ 16 + 7 * p + 5 → j ≠ 5 → j ≠ 11 → j ≠ 8 → q_lsn v p j = q_teach v p t j := fun j a b c d => by
    unfold q_lsn q_teach
    rw [q_un d, q_un c, q_un b, q_un a, q_subadd]
  refine q_sh_cg hnp (fun k q qq => ?_) (fun q qq => e _ (by omega) (by omega) (by omega) (by omega)) 4
  exact q_could_cg (e _ (by omega) (by omega) (by omega) (by omega)) (e _ (by omega) (by omega) (by omega) (by omega)) (e _ (by omega) (by omega) (by omega) (by omega)) (fun i => ⟨e _ (by omega) (by omega) (by omega) (by omega), e _ (by omega) (by omega) (by omega) (by omega)⟩)
theorem q_B_learn {p : Nat} {x y : Int32} (hnp : np ≤ 10) (hni : ni ≤ 10) (hnl : nl ≤ 10) (hB : q_B S b v np ni nl) (pp : p < np) : q_B (sI (sI S 2 (10 * b + p) 2 x) 2 (10 * b + p) 1 y) b (upd (upd v (16 + 7 * p + 2) x) (16 + 7 * p + 1) y) np ni nl := by
  refine ⟨?_, fun j hj => ?_, fun j hj => ?_, fun p2 q => ?_, fun i2 q => ?_, fun k q => ?_, fun p2 q => ?_⟩
  · obtain ⟨a1, a2, a3, a4, a5⟩ := hB.1
    simp (disch := omega) only [q_s_ne, q_s_eq, q_un, q_uq]
    exact ⟨a1, a2, a3, a4, a5⟩
  · have := hB.2.1 j hj
    simp (disch := omega) only [q_s_ne, q_s_eq, q_un, q_uq]
    exact this
  · have := hB.2.2.1 j hj
    simp (disch := omega) only [q_s_ne, q_s_eq, q_un, q_uq]
    exact this
  · obtain ⟨b0, b1, b2, b3, b4, b5, b6⟩ := hB.pl q
    unfold q_of at b0 b1 b2 b3 b4 b5 b6
    by_cases hp2 : p2 = p
    · subst hp2
      unfold q_P q_of
      simp (disch := omega) only [q_s_ne, q_s_eq, q_un, q_uq]
      refine ⟨?_, ?_, ?_, ?_, ?_, ?_, ?_⟩ <;> first | trivial | assumption
    · unfold q_P q_of
      simp (disch := omega) only [q_s_ne, q_s_eq, q_un, q_uq]
      exact ⟨b0, b1, b2, b3, b4, b5, b6⟩
  · have := hB.it q
    unfold q_I q_its at this
    unfold q_I q_its
    simp (disch := omega) only [q_s_ne, q_s_eq, q_un, q_uq]
    exact this
  · have := hB.2.2.2.2.2.1 k q
    simp (disch := omega) only [q_s_ne, q_s_eq, q_un, q_uq]
    exact this
  · have := hB.2.2.2.2.2.2 p2 q
    simp (disch := omega) only [q_s_ne, q_s_eq]
    exact this
theorem q_X4_helper {m t : Nat} (hi : q_inv B v np ni nl) (hB : q_B S 0 v np ni nl) (hm : m < 4) (ht : t < 3) (h : ∀ S2, q_f1 9 0 S S2 → post (some (aI (q_hl v m np t np 0))) S2) : w_X4_helper [aR 0 0, aI (nI m), aI (nI t)] S post := by
  have hnp := hi.1.1
  have hni := hi.1.2.1
  have hnl := hi.1.2.2.1
  have hsl := q_sh_le v m np 4
  have loop : ∀ d p, p + d = np → ∀ S1, q_f1 9 0 S S1 → (∀ S2, q_f1 9 0 S S2 → post (some (aI (q_hl v m np t d p))) S2) → ∀ l5 l6 l7, e_Run tb_X4_helper post e_no 9 [some (aR 0 0), some (aI (nI m)), some (aI (nI t)), some (aI (nI (q_sh v m np 4))), some (aI (nI p)), l5, l6, l7] [] S1 0 0 := by
    intro d
    induction d with
    | zero =>
      intro p hp S1 f1 hq l5 l6 l7
      obtain rfl : p = np := by omega
      refine e_walk (stops := [18]) 20 ?_
      show e_Run tb_X4_helper post e_no 18 [some (aR 0 0), some (aI (nI m)), some (aI (nI t)), some (aI (nI (q_sh v m p 4))), some (aI (nI p)), l5, l6, l7] [aI (mI S1 1 0 1), aI (nI p)] S1 0 0
      rw [(hB.f9 f1).1.1]
      refine e_walk (stops := []) 20 ?_
      exact And.intro (fun _ => hq S1 f1) (fun c => absurd (Int32.le_refl _) c)
    | succ d ih =>
      intro p hp S1 f1 hq l5 l6 l7
      have hB1 := hB.f9 f1
      rw [q_hl] at hq
      have next : q_hp v m np t p = false → ∀ S2, q_f1 9 0 S S2 → ∀ l5 l6 l7, e_Run tb_X4_helper post e_no 94 [some (aR 0 0), some (aI (nI m)), some (aI (nI t)), some (aI (nI (q_sh v m np 4))), some (aI (nI p)), l5, l6, l7] [] S2 0 0 := fun z S2 f2 l5 l6 l7 => by
        rw [z] at hq
        refine e_walk (stops := [9]) 20 ?_
        show e_Run tb_X4_helper post e_no 9 [some (aR 0 0), some (aI (nI m)), some (aI (nI t)), some (aI (nI (q_sh v m np 4))), some (aI (nI p + 1)), l5, l6, l7] [] S2 0 0
        rw [nI_1]
        exact ih (p + 1) (by omega) S2 f2 hq l5 l6 l7
      refine e_walk (stops := [18]) 20 ?_
      show e_Run tb_X4_helper post e_no 18 [some (aR 0 0), some (aI (nI m)), some (aI (nI t)), some (aI (nI (q_sh v m np 4))), some (aI (nI p)), l5, l6, l7] [aI (mI S1 1 0 1), aI (nI p)] S1 0 0
      rw [hB1.1.1]
      refine e_walk (stops := [30]) 20 ?_
      refine And.intro (fun c => absurd c (nI_ge (a := p) (b := np) (by omega) (by omega))) (fun _ => ?_)
      refine q_X0_pupilAt hB1.1.1 hnp (fun p' pp e => ?_) (fun z => absurd z (by rw [q_ix_mk (by omega) (show p < np by omega)]; decide))
      have : p = p' := (nI_eq (by omega) (by omega)).mp e
      subst this
      refine e_walk (stops := [47]) 20 ?_
      refine q_X0_whyNoLesson hi hB1 pp ht ?_
      have hle := q_whyLesson_le v p t
      refine e_walk (stops := [50, 94]) 20 ?_
      refine And.intro (fun c => ?_) (fun c => ?_)
      · have c : q_whyLesson v p t = 0 := (nI_eq (b := 0) (by omega) (by decide)).mp c
        obtain ⟨w1, w2, w3, w4⟩ := q_whyLesson_all c
        obtain ⟨i0, k0, i01, i02, i03, i04, i05, i06⟩ := hi.plays pp w1
        obtain ⟨p0, p1, p2, p3, p4, p5, p6⟩ := hB1.pl pp
        refine e_walk (stops := [59]) 20 ?_
        refine q_X0_breathOfLesson hi hB1 pp (q_plays_pos w1) ?_
        refine e_walk (stops := [69]) 20 ?_
        refine q_X2_learn ?_
        have hlr := q_B_learn (x := mI S1 2 (10 * 0 + p) 2 + 1) (y := mI S1 2 (10 * 0 + p) 1 - (3 + q_its v (q_has v p - 1) 0)) hnp hni hnl hB1 pp
        rw [p1, p2] at hlr
        rw [p1, p2]
        have hl2 : q_lips (q_lsn v p) np := fun q qq => by
          by_cases hqp : q = p
          · subst hqp
            obtain ⟨a, bb, cc, dd, ⟨e1, e2, e3, e4⟩, g, -⟩ := hi.2.1 q qq
            refine ⟨cc + 1, by omega, ?_⟩
            unfold q_lsn
            rw [q_of, q_un (by omega), q_ue, e3, nI_1]
          · obtain ⟨cc, h1, h2⟩ := hi.lips q qq
            exact ⟨cc, h1, by unfold q_lsn; rw [q_of, q_un (by omega), q_un (by omega)]; exact h2⟩
        have hv2 : q_ok0 (q_lsn v p) np ni := (hi.ok0.upd (k := 16 + 7 * p + 2) (by omega) (fun _ _ => by omega)).upd (by omega) (fun _ _ => by omega)
        refine e_walk (stops := [74]) 20 ?_
        refine q_X4_fillLineUp hv2 hl2 hlr hm (fun S3 f3 _ => ?_)
        rw [q_sh_lsn (t := t) hnp pp]
        have hsl2 := q_sh_le (q_teach v p t) m np 4
        have g1 : mI S3 2 (10 * 0 + p) 1 = q_of v p 1 - (3 + q_its v (q_has v p - 1) 0) := by rw [f3.1 2 _ (by omega), q_s_self]
        have g2 : mI S3 2 (10 * 0 + p) 2 = q_of v p 2 + 1 := by rw [f3.1 2 _ (by omega), q_s_ne (by omega), q_s_self]
        refine e_walk (stops := [85]) 20 ?_
        refine q_X2_learn ?_
        rw [g1, g2]
        have r1 : q_of v p 1 - (3 + q_its v (q_has v p - 1) 0) - -(3 + q_its v (q_has v p - 1) 0) = q_of v p 1 := by rw [Int32.sub_neg, Int32.sub_add_cancel]
        have r2 : q_of v p 2 + 1 + -1 = q_of v p 2 := by rw [Int32.add_assoc, show (1 : Int32) + -1 = 0 by decide, Int32.add_zero]
        rw [r1, r2]
        have f4 : q_f1 9 0 S (sI (sI S3 2 (10 * 0 + p) 2 (q_of v p 2)) 2 (10 * 0 + p) 1 (q_of v p 1)) := by
          refine ⟨fun k i hk => funext fun j => ?_, f3.2.1.trans f1.2.1, f3.2.2.trans f1.2.2⟩
          rw [← f1.1 k i hk]
          by_cases h1 : k = 2 ∧ i = 10 * 0 + p
          · obtain ⟨rfl, rfl⟩ := h1
            by_cases j1 : j = 1
            · subst j1
              rw [q_s_self, p1]
            · rw [q_s_ne (by omega)]
              by_cases j2 : j = 2
              · subst j2
                rw [q_s_self, p2]
              · rw [q_s_ne (by omega), f3.1 2 _ (by omega), q_s_ne (by omega), q_s_ne (by omega)]
          · rw [q_s_ne (fun z => h1 ⟨z.1, z.2.1⟩), q_s_ne (fun z => h1 ⟨z.1, z.2.1⟩), f3.1 k i hk, q_s_ne (fun z => h1 ⟨z.1, z.2.1⟩), q_s_ne (fun z => h1 ⟨z.1, z.2.1⟩)]
        refine e_walk (stops := [94]) 20 ?_
        refine And.intro (fun c2 => ?_) (fun c2 => ?_)
        · have c2 : ¬ q_sh (q_teach v p t) m np 4 < q_sh v m np 4 := Nat.not_lt.mpr ((nI_leI (by omega) (by omega)).mp c2)
          exact next (by unfold q_hp; rw [decide_eq_false c2, Bool.and_false]) _ f4 _ _ _
        · have c2 : q_sh (q_teach v p t) m np 4 < q_sh v m np 4 := Nat.lt_of_not_le (fun z => c2 (nI_le z (by omega)))
          have hh : q_hp v m np t p = true := by unfold q_hp; rw [decide_eq_true c, decide_eq_true c2]; rfl
          rw [hh] at hq
          exact hq _ f4
      · have c : ¬ q_whyLesson v p t = 0 := fun z => c (by rw [z]; rfl)
        exact next (by unfold q_hp; rw [decide_eq_false c, Bool.false_and]) _ f1 _ _ _
  refine e_walk (stops := [5]) 20 ?_
  refine q_X4_fillLineUp hi.ok0 hi.lips hB hm (fun S1 f1 _ => ?_)
  refine e_walk (stops := [9]) 20 ?_
  exact loop np 0 (by omega) S1 f1 h _ _ _
/-- the bits of a share, of the system -/
theorem q_sh52 : ∀ n, n < 22 → ((1023 : Int64) - Int64.ofNat n) * 4503599627370496 = ((1023 : Int64) - Int64.ofNat n) <<< ((52 : Int32).toInt64 &&& 63) := by decide +kernel
end Helps
