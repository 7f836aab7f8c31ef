/-! What walks come to: the system's line-ups. Own work. -/
section LineUp
variable {S S1 S2 : eM} {post : eQ} {v v2 : qV} {B b np ni nl : Nat}
theorem q_maxc (x y : Int32) : (if x < y then y else x) = (if y < x then x else y) := by
  by_cases c1 : x < y
  · rw [if_pos c1, if_neg (fun z => Int32.lt_irrefl (Int32.lt_trans c1 z))]
  · rw [if_neg c1]
    by_cases c2 : y < x
    · rw [if_pos c2]
    · rw [if_neg c2]
      exact Int32.le_antisymm (Int32.not_lt.mp c2) (Int32.not_lt.mp c1)
theorem q_X4_kindOfPart {m k : Nat} (hm : m < 4) (hk : k < 4) (h : post (some (aI (nI (q_kf m k)))) S) : w_X4_kindOfPart [aI (nI m), aI (nI k)] S post := by
  refine e_walk (stops := []) 20 ?_
  refine And.intro (by decide) (And.intro (by decide) ?_)
  show post (some (aI ((nI m + nI k / 2) - (nI m + nI k / 2) / 4 * 4))) S
  rw [q_kf_eq hm hk]
  exact h
theorem q_X4_breathOfPart {k : Nat} (h : post (some (aI (nI (4 + 2 * k)))) S) : w_X4_breathOfPart [aI (nI k)] S post := by
  refine e_walk (stops := []) 20 ?_
  show post (some (aI (nI 4 + nI 2 * nI k))) S
  rw [nI_mul, nI_add]
  exact h
theorem q_X4_lipsOfPart {m k : Nat} (h : post (some (aI (q_lf m k))) S) : w_X4_lipsOfPart [aI (nI m), aI (nI k)] S post := by
  unfold q_lf at h
  refine e_walk (stops := []) 30 ?_
  refine And.intro (fun c => ?_) (fun c => ?_)
  · have c2 : (1 : Int32) ≤ 2 + 3 * nI m - 2 * nI k := c
    rw [if_neg (fun z => Int32.lt_irrefl (Int32.lt_of_le_of_lt c2 z))] at h
    exact h
  · have c2 : ¬ (1 : Int32) ≤ 2 + 3 * nI m - 2 * nI k := c
    rw [if_pos (Int32.not_le.mp c2)] at h
    exact h
theorem q_own0 {p : Nat} {x : Int32} (hv : q_ok0 v np ni) (hB : q_B S b v np ni nl) (pp : p < np) (hx : x = q_of v p 4 - 1) (hy : 0 < q_has v p → q_has v p - 1 < ni → post (some (aR 3 (10 * b + (q_has v p - 1)))) S) (hn : q_has v p = 0 → post (some (aO none)) S) : w_X0_instrumentAt [aR 1 b, aI x] S post := by
  have hni := hv.2.1
  obtain ⟨h1, h2, h3⟩ := hv.has pp
  rw [hx, h3]
  refine q_X0_instrumentAt hB.1.2.1 hni (fun i ii e => ?_) (fun z => ?_)
  · have h0 : 0 < q_has v p := by
      rcases Nat.eq_zero_or_pos (q_has v p) with z | z
      · have : q_ix (nI (q_has v p) - 1) ni = true := by rw [e]; exact q_ix_mk (by omega) ii
        rw [q_ixm1 h2 hni, z] at this
        exact absurd this (by decide)
      · exact z
    rw [q_pred h0] at e
    have : q_has v p - 1 = i := (nI_eq (by omega) (by omega)).mp e
    subst this
    exact hy h0 ii
  · rw [q_ixm1 h2 hni] at z
    exact hn (by have := of_decide_eq_false z; omega)
theorem q_X4_couldPlay {p m k : Nat} (hv : q_ok0 v np ni) (hB : q_B S 0 v np ni nl) (pp : p < np) (hm : m < 4) (hk : k < 4) (h : post (some (aI (cond (q_could v p m k) 1 0))) S) : w_X4_couldPlay [aR 0 0, aR 2 (10 * 0 + p), aI (nI m), aI (nI k)] S post := by
  obtain ⟨p0, p1, p2, p3, p4, p5, p6⟩ := hB.pl pp
  unfold q_could q_plays at h
  refine e_walk (stops := [11]) 20 ?_
  refine q_own0 hv hB pp p4 (fun h0 ii => ?_) (fun z => ?_)
  · obtain ⟨i0, i1, i2, i3, i4⟩ := hB.it ii
    rw [decide_eq_true h0, Bool.true_and] at h
    refine e_walk (stops := [23]) 20 ?_
    refine q_X1_isPlayable ?_
    rw [i1]
    by_cases c1 : q_its v (q_has v p - 1) 1 < 5
    · rw [decide_eq_true c1, Bool.true_and] at h
      rw [decide_eq_true c1]
      refine e_walk (stops := [31]) 20 ?_
      refine And.intro (fun c => absurd c (by decide)) (fun _ => ?_)
      show e_Run tb_X4_couldPlay post e_no 31 [some (aR 0 0), some (aR 2 (10 * 0 + p)), some (aI (nI m)), some (aI (nI k)), some (aR 3 (10 * 0 + (q_has v p - 1)))] [aI (mI S 3 (10 * 0 + (q_has v p - 1)) 0)] S 0 0
      rw [i0]
      refine e_walk (stops := [36]) 20 ?_
      refine q_X4_kindOfPart hm hk ?_
      refine e_walk (stops := [43]) 20 ?_
      refine And.intro (fun c => ?_) (fun c => ?_)
      · rw [decide_eq_true (show q_its v (q_has v p - 1) 0 = nI (q_kf m k) from c), Bool.true_and] at h
        show e_Run tb_X4_couldPlay post e_no 43 [some (aR 0 0), some (aR 2 (10 * 0 + p)), some (aI (nI m)), some (aI (nI k)), some (aR 3 (10 * 0 + (q_has v p - 1)))] [aI (mI S 2 (10 * 0 + p) 1)] S 0 0
        rw [p1]
        refine e_walk (stops := [47]) 20 ?_
        refine q_X4_breathOfPart ?_
        refine e_walk (stops := [54]) 20 ?_
        refine And.intro (fun c2 => ?_) (fun c2 => ?_)
        · rw [decide_eq_false (show ¬ ¬ q_of v p 1 < nI (4 + 2 * k) from fun z => z c2), Bool.false_and] at h
          exact h
        · rw [decide_eq_true (show ¬ q_of v p 1 < nI (4 + 2 * k) from c2), Bool.true_and] at h
          show e_Run tb_X4_couldPlay post e_no 54 [some (aR 0 0), some (aR 2 (10 * 0 + p)), some (aI (nI m)), some (aI (nI k)), some (aR 3 (10 * 0 + (q_has v p - 1)))] [aI (mI S 2 (10 * 0 + p) 2)] S 0 0
          rw [p2]
          refine e_walk (stops := [59]) 20 ?_
          refine q_X4_lipsOfPart ?_
          refine e_walk (stops := []) 20 ?_
          refine And.intro (fun c3 => ?_) (fun c3 => ?_)
          · rw [decide_eq_false (show ¬ ¬ q_of v p 2 < q_lf m k from fun z => z c3)] at h
            exact h
          · rw [decide_eq_true (show ¬ q_of v p 2 < q_lf m k from c3)] at h
            exact h
      · rw [decide_eq_false (show ¬ q_its v (q_has v p - 1) 0 = nI (q_kf m k) from c), Bool.false_and] at h
        exact h
    · rw [decide_eq_false c1, Bool.false_and] at h
      rw [decide_eq_false c1]
      refine e_walk (stops := []) 20 ?_
      exact And.intro (fun _ => h) (fun c => absurd rfl c)
  · rw [z] at h
    exact e_walk (stops := []) 20 h
/-- lips are small numbers -/
def q_lips (v : qV) (np : Nat) : Prop := ∀ p, p < np → ∃ c, c < 65536 ∧ q_of v p 2 = nI c
theorem q_inv.lips (h : q_inv B v np ni nl) : q_lips v np := fun p pp => by
  obtain ⟨a, b, c, d, ⟨e1, e2, e3, e4⟩, f, -⟩ := h.2.1 p pp
  exact ⟨c, by omega, e3⟩
def q_bl2 (v : qV) (m k : Nat) (tk : Int32) (n : Nat) : Int32 := if q_bst v m k tk n = -1 then -1 else q_of v (q_bst v m k tk n).toNatClampNeg 2
theorem q_bl2_lt {m k n : Nat} {tk : Int32} (hl : q_lips v np) (hnp : np ≤ 10) (hn : n < np) : decide (q_bl2 v m k tk n < q_of v n 2) = (decide (q_bst v m k tk n = -1) || decide (q_of v (q_bst v m k tk n).toNatClampNeg 2 < q_of v n 2)) := by
  unfold q_bl2
  by_cases z : q_bst v m k tk n = -1
  · rw [if_pos z, decide_eq_true z, Bool.true_or]
    obtain ⟨c, hc, e⟩ := hl n hn
    rw [e]
    exact decide_eq_true (Int32.lt_of_lt_of_le (show (-1 : Int32) < 0 by decide) (Int32.not_lt.mp (nI_pos (by omega))))
  · rw [if_neg z, decide_eq_false z, Bool.false_or]
theorem q_X4_bestFor {m k : Nat} {tk : Int32} (hv : q_ok0 v np ni) (hl : q_lips v np) (hB : q_B S 0 v np ni nl) (hm : m < 4) (hk : k < 4) (h : post (some (aI (q_bst v m k tk np))) S) : w_X4_bestFor [aR 0 0, aI (nI m), aI (nI k), aI tk] S post := by
  have hnp := hv.1
  have loop : ∀ d n, n + d = np → ∀ l7 l8, e_Run tb_X4_bestFor post e_no 9 [some (aR 0 0), some (aI (nI m)), some (aI (nI k)), some (aI tk), some (aI (q_bst v m k tk n)), some (aI (q_bl2 v m k tk n)), some (aI (nI n)), l7, l8] [] S 0 0 := by
    intro d
    induction d with
    | zero =>
      intro n hn l7 l8
      obtain rfl : n = np := by omega
      refine e_walk (stops := [18]) 20 ?_
      show e_Run tb_X4_bestFor post e_no 18 [some (aR 0 0), some (aI (nI m)), some (aI (nI k)), some (aI tk), some (aI (q_bst v m k tk n)), some (aI (q_bl2 v m k tk n)), some (aI (nI n)), l7, l8] [aI (mI S 1 0 1), aI (nI n)] S 0 0
      rw [hB.1.1]
      refine e_walk (stops := []) 20 ?_
      exact And.intro (fun _ => h) (fun c => absurd (Int32.le_refl _) c)
    | succ d ih =>
      intro n hn l7 l8
      have ih := ih (n + 1) (by omega)
      refine e_walk (stops := [18]) 20 ?_
      show e_Run tb_X4_bestFor post e_no 18 [some (aR 0 0), some (aI (nI m)), some (aI (nI k)), some (aI tk), some (aI (q_bst v m k tk n)), some (aI (q_bl2 v m k tk n)), some (aI (nI n)), l7, l8] [aI (mI S 1 0 1), aI (nI n)] S 0 0
      rw [hB.1.1]
      refine e_walk (stops := [30]) 20 ?_
      refine And.intro (fun c => absurd c (nI_ge (a := n) (b := np) (by omega) (by omega))) (fun _ => ?_)
      refine q_X0_pupilAt hB.1.1 hnp (fun p pp e => ?_) (fun z => absurd z (by rw [q_ix_mk (by omega) (show n < np by omega)]; decide))
      have : n = p := (nI_eq (by omega) (by omega)).mp e
      subst this
      obtain ⟨p0, p1, p2, p3, p4, p5, p6⟩ := hB.pl pp
      have hb2 := q_bl2_lt (m := m) (k := k) (tk := tk) hl hnp pp
      have keep : (decide (tk >>> (nI n &&& 31) &&& 1 = 0) && (q_could v n m k && (decide (q_bst v m k tk n = -1) || decide (q_of v (q_bst v m k tk n).toNatClampNeg 2 < q_of v n 2)))) = false → ∀ l7 l8, e_Run tb_X4_bestFor post e_no 90 [some (aR 0 0), some (aI (nI m)), some (aI (nI k)), some (aI tk), some (aI (q_bst v m k tk n)), some (aI (q_bl2 v m k tk n)), some (aI (nI n)), l7, l8] [] S 0 0 := fun z l7 l8 => by
        have e1 : q_bst v m k tk (n + 1) = q_bst v m k tk n := by rw [q_bst, z]; rfl
        have e2 : q_bl2 v m k tk (n + 1) = q_bl2 v m k tk n := by unfold q_bl2; rw [e1]
        refine e_walk (stops := [9]) 20 ?_
        show e_Run tb_X4_bestFor post e_no 9 [some (aR 0 0), some (aI (nI m)), some (aI (nI k)), some (aI tk), some (aI (q_bst v m k tk n)), some (aI (q_bl2 v m k tk n)), some (aI (nI n + 1)), l7, l8] [] S 0 0
        rw [nI_1, ← e1, ← e2]
        exact ih l7 l8
      refine e_walk (stops := [38]) 20 ?_
      refine e_walk (stops := [90, 65]) 30 ?_
      refine And.intro (fun c => ?_) (fun c => ?_)
      · have cd : decide (tk >>> (nI n &&& 31) &&& 1 = 0) = true := decide_eq_true c
        refine And.intro (fun z => absurd z (by decide)) (fun _ => ?_)
        show e_Run tb_X4_bestFor post e_no 65 [some (aR 0 0), some (aI (nI m)), some (aI (nI k)), some (aI tk), some (aI (q_bst v m k tk n)), some (aI (q_bl2 v m k tk n)), some (aI (nI n)), some (aR 2 (10 * 0 + n)), some (aI 1)] [aI (q_bl2 v m k tk n), aI (mI S 2 (10 * 0 + n) 2)] S 0 0
        rw [p2]
        refine e_walk (stops := [90, 76]) 30 ?_
        refine And.intro (fun c2 => ?_) (fun c2 => ?_)
        · refine keep ?_ _ _
          rw [← hb2, decide_eq_false (Int32.not_lt.mpr c2), Bool.and_false, Bool.and_false]
        · have c2 : q_bl2 v m k tk n < q_of v n 2 := Int32.not_le.mp c2
          refine q_X4_couldPlay hv hB pp hm hk ?_
          cases c3 : q_could v n m k with
          | false =>
            refine e_walk (stops := [90]) 20 ?_
            refine And.intro (fun _ => ?_) (fun z => absurd rfl z)
            exact keep (by rw [c3, Bool.false_and, Bool.and_false]) _ _
          | true =>
            have e1 : q_bst v m k tk (n + 1) = nI n := by rw [q_bst, cd, c3, ← hb2, decide_eq_true c2]; rfl
            have e2 : q_bl2 v m k tk (n + 1) = q_of v n 2 := by unfold q_bl2; rw [e1, if_neg (q_nIne (by omega)), nI_clamp (by omega)]
            refine e_walk (stops := [88]) 20 ?_
            refine And.intro (fun z => absurd z (by decide)) (fun _ => ?_)
            show e_Run tb_X4_bestFor post e_no 88 [some (aR 0 0), some (aI (nI m)), some (aI (nI k)), some (aI tk), some (aI (nI n)), some (aI (q_bl2 v m k tk n)), some (aI (nI n)), some (aR 2 (10 * 0 + n)), some (aI 1)] [aI (mI S 2 (10 * 0 + n) 2)] S 0 0
            rw [p2]
            refine e_walk (stops := [9]) 20 ?_
            show e_Run tb_X4_bestFor post e_no 9 [some (aR 0 0), some (aI (nI m)), some (aI (nI k)), some (aI tk), some (aI (nI n)), some (aI (q_of v n 2)), some (aI (nI n + 1)), some (aR 2 (10 * 0 + n)), some (aI 1)] [] S 0 0
            have ih := ih (some (aR 2 (10 * 0 + n))) (some (aI 1))
            rw [e1, e2] at ih
            rw [nI_1]
            exact ih
      · have cd : decide (tk >>> (nI n &&& 31) &&& 1 = 0) = false := decide_eq_false c
        refine And.intro (fun _ => ?_) (fun z => absurd rfl z)
        exact keep (by rw [cd, Bool.false_and]) _ _
  refine e_walk (stops := [9]) 20 ?_
  exact loop np 0 (by omega) _ _
theorem q_B.f9 (h : q_B S b v np ni nl) (f : q_f1 9 0 S S2) : q_B S2 b v np ni nl := by
  have e1 : ∀ i, mI S2 1 i = mI S 1 i := fun i => f.1 1 i (by omega)
  have e2 : ∀ i, mI S2 2 i = mI S 2 i := fun i => f.1 2 i (by omega)
  have e3 : ∀ i, mI S2 3 i = mI S 3 i := fun i => f.1 3 i (by omega)
  have e6 : ∀ i, mI S2 6 i = mI S 6 i := fun i => f.1 6 i (by omega)
  have e7 : ∀ i, mI S2 7 i = mI S 7 i := fun i => f.1 7 i (by omega)
  unfold q_B q_P q_I
  simp only [e1, e2, e3, e6, e7]
  exact h
theorem q_f1.trans {k i : Nat} (h : q_f1 k i S S1) (g : q_f1 k i S1 S2) : q_f1 k i S S2 := ⟨fun a c hc => (g.1 a c hc).trans (h.1 a c hc), g.2.1.trans h.2.1, g.2.2.trans h.2.2⟩
theorem q_X4_fillLineUp {m : Nat} (hv : q_ok0 v np ni) (hl : q_lips v np) (hB : q_B S 0 v np ni nl) (hm : m < 4) (hp : ∀ S2, q_f1 9 0 S S2 → (∀ j, j < 4 → mI S2 9 0 j = q_pl v m np j) → post (some (aI (nI (q_sh v m np 4)))) S2) : w_X4_fillLineUp [aR 0 0, aI (nI m)] S post := by
  have loop : ∀ d k, k + d = 4 → ∀ S1, q_f1 9 0 S S1 → (∀ j, j < k → mI S1 9 0 j = q_pl v m np j) → ∀ l5, e_Run tb_X4_fillLineUp post e_no 7 [some (aR 0 0), some (aI (nI m)), some (aI (q_tk v m np k)), some (aI (nI (q_sh v m np k))), some (aI (nI k)), l5] [] S1 0 0 := by
    intro d
    induction d with
    | zero =>
      intro k hk S1 f g l5
      obtain rfl : k = 4 := by omega
      refine e_walk (stops := []) 20 ?_
      exact And.intro (fun _ => hp S1 f g) (fun c => absurd (by decide) c)
    | succ d ih =>
      intro k hk S1 f g l5
      have ih := ih (k + 1) (by omega)
      rw [q_tk, q_sh] at ih
      refine e_walk (stops := [21]) 20 ?_
      refine And.intro (fun c => absurd c (nI_ge (a := k) (b := 4) (by omega) (by decide))) (fun _ => ?_)
      refine q_X4_bestFor hv hl (hB.f9 f) hm (by omega) ?_
      have hpl : q_bst v m k (q_tk v m np k) np = q_pl v m np k := rfl
      rw [hpl] at ih
      rw [hpl]
      refine e_walk (stops := [32]) 20 ?_
      refine And.intro (q_in (n := k) (L := 4) rfl (by omega) (by decide)) ?_
      show e_Run tb_X4_fillLineUp post e_no 32 [some (aR 0 0), some (aI (nI m)), some (aI (q_tk v m np k)), some (aI (nI (q_sh v m np k))), some (aI (nI k)), some (aI (q_pl v m np k))] [] (sI S1 9 0 (nI k).toNatClampNeg (q_pl v m np k)) 0 0
      rw [nI_clamp (by omega)]
      have g2 : ∀ j, j < k + 1 → mI (sI S1 9 0 k (q_pl v m np k)) 9 0 j = q_pl v m np j := fun j hj => by
        by_cases hjk : j = k
        · subst hjk
          rw [q_s_self]
        · rw [q_s_ne (by omega)]
          exact g j (by omega)
      have ih := ih _ f.set g2
      generalize sI S1 9 0 k (q_pl v m np k) = S2 at *
      refine e_walk (stops := [7]) 30 ?_
      refine And.intro (fun c => ?_) (fun c => ?_)
      · have c : q_pl v m np k = -1 := c
        rw [decide_eq_true c] at ih
        show e_Run tb_X4_fillLineUp post e_no 7 [some (aR 0 0), some (aI (nI m)), some (aI (q_tk v m np k)), some (aI (nI (q_sh v m np k) + 1)), some (aI (nI k + 1)), some (aI (q_pl v m np k))] [] S2 0 0
        rw [nI_1, nI_1]
        exact ih _
      · have c : ¬ q_pl v m np k = -1 := c
        rw [decide_eq_false c] at ih
        show e_Run tb_X4_fillLineUp post e_no 7 [some (aR 0 0), some (aI (nI m)), some (aI (q_tk v m np k ||| (1 : Int32) <<< (q_pl v m np k &&& 31))), some (aI (nI (q_sh v m np k))), some (aI (nI k + 1)), some (aI (q_pl v m np k))] [] S2 0 0
        rw [nI_1]
        exact ih _
  refine e_walk (stops := [7]) 20 ?_
  exact loop 4 0 rfl S q_f1.rf (fun j hj => absurd hj (Nat.not_lt_zero j)) _
theorem q_X4_playerOf {k : Nat} (hk : k < 4) (h : post (some (aI (mI S 9 0 k))) S) : w_X4_playerOf [aR 0 0, aI (nI k)] S post := by
  refine e_walk (stops := []) 30 ?_
  refine And.intro (fun c => absurd c (nI_pos (by omega))) (fun _ => And.intro (fun c => absurd (show nI 4 ≤ nI k from c) (nI_ge hk (by decide))) (fun _ => ?_))
  refine And.intro (q_in (n := k) (L := 4) rfl hk (by decide)) ?_
  show post (some (aI (mI S 9 0 (nI k).toNatClampNeg))) S
  rw [nI_clamp (by omega)]
  exact h
theorem q_X4_penceFor {n : Nat} (hn : n < 65536) (hs : ∀ j, j < 3 → mI S 7 0 j = v (13 + j)) (h : post (some (aI (q_pence v n))) S) : w_X4_penceFor [aR 0 0, aI (nI n)] S post := by
  unfold q_pence at h
  refine e_walk (stops := [8]) 20 ?_
  show w_X0_settingAt [aR 1 0, aI (nI 2)] S _
  refine q_X0_settingAt (k := 2) hs (by decide) ?_
  refine e_walk (stops := []) 30 ?_
  refine And.intro (fun c => ?_) (fun c => ?_)
  · have c : n = 0 := (nI_eq (by omega) (by decide)).mp c
    subst c
    show post (some (aI (2 * (v 15 * (4 - nI 0))))) S
    rw [Int32.mul_comm]
    exact h
  · have c : ¬ n = 0 := fun z => c (by rw [z]; rfl)
    rw [decide_eq_false c, cond_false, Int32.mul_one] at h
    exact h
theorem q_pence_eq (e : v2 15 = v 15) (n : Nat) : q_pence v2 n = q_pence v n := by unfold q_pence; rw [e]
theorem q_X4_bestMarch (hv : q_ok0 v np ni) (hl : q_lips v np) (hB : q_B S 0 v np ni nl) (h : ∀ S2, q_f1 9 0 S S2 → post (some (aI (nI (q_bs v np 4)))) S2) : w_X4_bestMarch [aR 0 0] S post := by
  have hsl : ∀ m, q_sh v m np 4 < 65536 := fun m => by have := q_sh_le v m np 4; omega
  have loop : ∀ d k, k + d = 4 → ∀ S1, q_f1 9 0 S S1 → ∀ l4, e_Run tb_X4_bestMarch post e_no 14 [some (aR 0 0), some (aI (nI (q_bs v np k))), some (aI (q_pm v np (q_bs v np k))), some (aI (nI k)), l4] [] S1 0 0 := by
    intro d
    induction d with
    | zero =>
      intro k hk S1 f l4
      obtain rfl : k = 4 := by omega
      refine e_walk (stops := []) 20 ?_
      exact And.intro (fun _ => h S1 f) (fun c => absurd (by decide) c)
    | succ d ih =>
      intro k hk S1 f l4
      have ih := ih (k + 1) (by omega)
      rw [q_bs] at ih
      refine e_walk (stops := [25]) 20 ?_
      refine And.intro (fun c => absurd c (nI_ge (a := k) (b := 4) (by omega) (by decide))) (fun _ => ?_)
      refine q_X4_fillLineUp hv hl (hB.f9 f) (by omega) (fun S2 f2 _ => ?_)
      refine e_walk (stops := [28]) 20 ?_
      refine q_X4_penceFor (hsl k) ((hB.f9 f).f9 f2).2.2.1 ?_
      have ih := ih S2 (f.trans f2)
      refine e_walk (stops := [14]) 30 ?_
      refine And.intro (fun c => ?_) (fun c => ?_)
      · have c : q_pm v np k ≤ q_pm v np (q_bs v np k) := c
        rw [if_neg (Int32.not_lt.mpr c)] at ih
        show e_Run tb_X4_bestMarch post e_no 14 [some (aR 0 0), some (aI (nI (q_bs v np k))), some (aI (q_pm v np (q_bs v np k))), some (aI (nI k + 1)), some (aI (q_pm v np k))] [] S2 0 0
        rw [nI_1]
        exact ih _
      · have c : ¬ q_pm v np k ≤ q_pm v np (q_bs v np k) := c
        rw [if_pos (Int32.not_le.mp c)] at ih
        show e_Run tb_X4_bestMarch post e_no 14 [some (aR 0 0), some (aI (nI k)), some (aI (q_pm v np k)), some (aI (nI k + 1)), some (aI (q_pm v np k))] [] S2 0 0
        rw [nI_1]
        exact ih _
  refine e_walk (stops := [8]) 20 ?_
  show w_X4_fillLineUp [aR 0 0, aI (nI 0)] S _
  refine q_X4_fillLineUp hv hl hB (by decide) (fun S2 f2 _ => ?_)
  refine e_walk (stops := [11]) 20 ?_
  refine q_X4_penceFor (hsl 0) (hB.f9 f2).2.2.1 ?_
  refine e_walk (stops := [14]) 20 ?_
  have := loop 3 1 rfl S2 f2
  have e : q_bs v np 1 = 0 := by rw [q_bs, q_bs]; split <;> rfl
  rw [e] at this
  exact this _
end LineUp
