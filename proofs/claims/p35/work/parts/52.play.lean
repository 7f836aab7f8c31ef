/-! What walks come to: marches, helps, the most parts of the system. Own work. -/
section Plays
variable {S S1 S2 : eM} {post : eQ} {v v2 : qV} {B b np ni nl : Nat}
def q_p1 (x : Int32) : Int32 := x - ((x.toUInt32 >>> ((1 : Int32).toUInt32 &&& Int32.toUInt32 31)).toInt32 &&& 1431655765)
def q_p2 (x : Int32) : Int32 := (x &&& 858993459) + ((x.toUInt32 >>> ((2 : Int32).toUInt32 &&& Int32.toUInt32 31)).toInt32 &&& 858993459)
def q_p3 (x : Int32) : Int32 := (x + (x.toUInt32 >>> ((4 : Int32).toUInt32 &&& Int32.toUInt32 31)).toInt32) &&& 252645135
def q_p4 (x : Int32) : Int32 := x + (x.toUInt32 >>> ((8 : Int32).toUInt32 &&& Int32.toUInt32 31)).toInt32
def q_p5 (x : Int32) : Int32 := (x + (x.toUInt32 >>> ((16 : Int32).toUInt32 &&& Int32.toUInt32 31)).toInt32) &&& 63
theorem q_p_on : ∀ s, s < 16 → q_p5 (q_p4 (q_p3 (q_p2 (q_p1 (nI s))))) = nI (q_on s s) := by decide +kernel
theorem q_J6_bitCount {s : Nat} (hs : s < 16) (h : post (some (aI (nI (q_on s s)))) S) : w_J6_bitCount_0f7a4 [aI (nI s)] S post := by
  rw [← q_p_on s hs] at h
  refine e_walk (stops := [10]) 20 ?_
  show e_Run tb_J6_bitCount_0f7a4 post e_no 10 [some (aI (q_p1 (nI s)))] [] S 0 0
  generalize q_p1 (nI s) = x at *
  refine e_walk (stops := [24]) 20 ?_
  show e_Run tb_J6_bitCount_0f7a4 post e_no 24 [some (aI (q_p2 x))] [] S 0 0
  generalize q_p2 x = x2 at *
  refine e_walk (stops := [34]) 20 ?_
  show e_Run tb_J6_bitCount_0f7a4 post e_no 34 [some (aI (q_p3 x2))] [] S 0 0
  generalize q_p3 x2 = x3 at *
  refine e_walk (stops := [41]) 20 ?_
  show e_Run tb_J6_bitCount_0f7a4 post e_no 41 [some (aI (q_p4 x3))] [] S 0 0
  generalize q_p4 x3 = x4 at *
  exact e_walk (stops := []) 20 h
theorem q_X4_mostParts {m : Nat} (hv : q_ok0 v np ni) (hB : q_B S 0 v np ni nl) (hm : m < 4) (h : post (some (aI (q_mos v m np 16))) S) : w_X4_mostParts [aR 0 0, aI (nI m)] S post := by
  have hnp := hv.1
  rw [← q_ms_mos hnp] at h
  have tail : ∀ d s, s + d = 16 → ∀ l5 l6, e_Run tb_X4_mostParts post e_no 81 [some (aR 0 0), some (aI (nI m)), some (aI (q_rch v m np)), some (aI (q_ms (q_rch v m np) s)), some (aI (nI s)), l5, l6] [] S 0 0 := by
    intro d
    generalize q_rch v m np = x at *
    induction d with
    | zero =>
      intro s hs l5 l6
      obtain rfl : s = 16 := by omega
      refine e_walk (stops := []) 20 ?_
      exact And.intro (fun _ => h) (fun c => absurd (by decide) c)
    | succ d ih =>
      intro s hs l5 l6
      have ih := ih (s + 1) (by omega) l5 l6
      rw [q_ms] at ih
      refine e_walk (stops := [103, 81]) 30 ?_
      refine And.intro (fun c => absurd c (nI_ge (a := s) (b := 16) (by omega) (by decide))) (fun _ => ?_)
      refine And.intro (fun c => ?_) (fun c => ?_)
      · have hb : q_bt x s = false := by unfold q_bt; rw [decide_eq_true (show x >>> (nI s &&& 31) &&& 1 = 0 from c)]; rfl
        rw [hb] at ih
        show e_Run tb_X4_mostParts post e_no 81 [some (aR 0 0), some (aI (nI m)), some (aI x), some (aI (q_ms x s)), some (aI (nI s + 1)), l5, l6] [] S 0 0
        rw [nI_1]
        exact ih
      · have hb : q_bt x s = true := by unfold q_bt; rw [decide_eq_false (show ¬ x >>> (nI s &&& 31) &&& 1 = 0 from c)]; rfl
        rw [hb] at ih
        refine q_J6_bitCount (by omega) ?_
        refine e_walk (stops := [81]) 20 ?_
        show e_Run tb_X4_mostParts post e_no 81 [some (aR 0 0), some (aI (nI m)), some (aI x), some (aI (if q_ms x s < nI (q_on s s) then nI (q_on s s) else q_ms x s)), some (aI (nI s + 1)), l5, l6] [] S 0 0
        rw [nI_1]
        exact ih
  have outer : ∀ d n, n + d = np → ∀ l4 l5 l6, e_Run tb_X4_mostParts post e_no 4 [some (aR 0 0), some (aI (nI m)), some (aI (q_rch v m n)), some (aI (nI n)), l4, l5, l6] [] S 0 0 := by
    intro d
    induction d with
    | zero =>
      intro n hn l4 l5 l6
      obtain rfl : n = np := by omega
      refine e_walk (stops := [12]) 20 ?_
      show e_Run tb_X4_mostParts post e_no 12 [some (aR 0 0), some (aI (nI m)), some (aI (q_rch v m n)), some (aI (nI n)), l4, l5, l6] [aI (mI S 1 0 1), aI (nI n)] S 0 0
      rw [hB.1.1]
      refine e_walk (stops := [81]) 20 ?_
      refine And.intro (fun _ => ?_) (fun c => absurd (Int32.le_refl _) c)
      exact tail 16 0 rfl l5 l6
    | succ d ih =>
      intro n hn l4 l5 l6
      refine e_walk (stops := [12]) 20 ?_
      show e_Run tb_X4_mostParts post e_no 12 [some (aR 0 0), some (aI (nI m)), some (aI (q_rch v m n)), some (aI (nI n)), l4, l5, l6] [aI (mI S 1 0 1), aI (nI n)] S 0 0
      rw [hB.1.1]
      refine e_walk (stops := [23]) 20 ?_
      refine And.intro (fun c => absurd c (nI_ge (a := n) (b := np) (by omega) (by omega))) (fun _ => ?_)
      refine q_X0_pupilAt hB.1.1 hnp (fun p pp e => ?_) (fun z => absurd z (by rw [q_ix_mk (by omega) (show n < np by omega)]; decide))
      have : n = p := (nI_eq (by omega) (by omega)).mp e
      subst this
      have inner : ∀ f k, k + f = 4 → e_Run tb_X4_mostParts post e_no 31 [some (aR 0 0), some (aI (nI m)), some (aI (q_rp v n m (q_rch v m n) k)), some (aI (nI n)), some (aR 2 (10 * 0 + n)), some (aI (q_rch v m n)), some (aI (nI k))] [] S 0 0 := by
        intro f
        induction f with
        | zero =>
          intro k hk
          obtain rfl : k = 4 := by omega
          refine e_walk (stops := [4]) 20 ?_
          refine And.intro (fun _ => ?_) (fun c => absurd (by decide) c)
          show e_Run tb_X4_mostParts post e_no 4 [some (aR 0 0), some (aI (nI m)), some (aI (q_rch v m (n + 1))), some (aI (nI n + 1)), some (aR 2 (10 * 0 + n)), some (aI (q_rch v m n)), some (aI (nI 4))] [] S 0 0
          rw [nI_1]
          exact ih (n + 1) (by omega) _ _ _
        | succ f ihf =>
          intro k hk
          have ihf := ihf (k + 1) (by omega)
          rw [q_rp] at ihf
          refine e_walk (stops := [51]) 20 ?_
          refine And.intro (fun c => absurd c (nI_ge (a := k) (b := 4) (by omega) (by decide))) (fun _ => ?_)
          refine q_X4_couldPlay hv hB pp hm (by omega) ?_
          cases hc : q_could v n m k with
          | false =>
            rw [hc] at ihf
            refine e_walk (stops := [31]) 20 ?_
            refine And.intro (fun _ => ?_) (fun c => absurd rfl c)
            show e_Run tb_X4_mostParts post e_no 31 [some (aR 0 0), some (aI (nI m)), some (aI (q_rp v n m (q_rch v m n) k)), some (aI (nI n)), some (aR 2 (10 * 0 + n)), some (aI (q_rch v m n)), some (aI (nI k + 1))] [] S 0 0
            rw [nI_1]
            exact ihf
          | true =>
            rw [hc] at ihf
            refine e_walk (stops := [62]) 20 ?_
            refine And.intro (fun c => absurd c (by decide)) (fun _ => ?_)
            refine q_X4_withPart (by omega) ?_
            refine e_walk (stops := [31]) 20 ?_
            show e_Run tb_X4_mostParts post e_no 31 [some (aR 0 0), some (aI (nI m)), some (aI (q_rp v n m (q_rch v m n) k ||| q_wp (q_rch v m n) k 16)), some (aI (nI n)), some (aR 2 (10 * 0 + n)), some (aI (q_rch v m n)), some (aI (nI k + 1))] [] S 0 0
            rw [nI_1]
            exact ihf
      refine e_walk (stops := [31]) 20 ?_
      exact inner 4 0 rfl
  refine e_walk (stops := [4]) 20 ?_
  exact outer np 0 (by omega) _ _ _
/-- class-wide frame: the band that stands, and the line-up -/
def q_f0 (S S2 : eM) : Prop := (∀ k i, ¬ q_rgn 0 k i → ¬ (k = 9 ∧ i = 0) → mI S2 k i = mI S k i) ∧ mR S2 = mR S ∧ mL S2 = mL S
theorem q_f0.rf : q_f0 S S := ⟨fun _ _ _ _ => rfl, rfl, rfl⟩
theorem q_f0.trans (h : q_f0 S S1) (g : q_f0 S1 S2) : q_f0 S S2 := ⟨fun a c h1 h2 => (g.1 a c h1 h2).trans (h.1 a c h1 h2), g.2.1.trans h.2.1, g.2.2.trans h.2.2⟩
theorem q_f0.fb (h : q_fb 0 S S2) : q_f0 S S2 := ⟨fun a c h1 _ => h.1 a c h1, h.2⟩
theorem q_f0.f9 (h : q_f1 9 0 S S2) : q_f0 S S2 := ⟨fun a c _ h2 => h.1 a c h2, h.2⟩
theorem q_X4_playMarch {m : Nat} (hi : q_inv B v np ni nl) (hB : q_B S 0 v np ni nl) (hm : m < 4) (h : ∀ S2, q_f0 S S2 → q_B S2 0 (q_march v m np) np ni nl → post (some (aI (nI (q_sh v m np 4)))) S2) : w_X4_playMarch [aR 0 0, aI (nI m)] S post := by
  have hnp := hi.1.1
  have hni := hi.1.2.1
  have hnl := hi.1.2.2.1
  have hsl := q_sh_le v m np 4
  refine e_walk (stops := [5]) 20 ?_
  refine q_X4_fillLineUp hi.ok0 hi.lips hB hm (fun S1 f1 g1 => ?_)
  have hB1 := hB.f9 f1
  have loop : ∀ d k, k + d = 4 → ∀ S2, q_fb 0 S1 S2 → q_B S2 0 (q_mr v m np k) np ni nl → e_Run tb_X4_playMarch post e_no 8 [some (aR 0 0), some (aI (nI m)), some (aI (nI (q_sh v m np 4))), some (aI (nI k))] [] S2 0 0 := by
    intro d
    induction d with
    | zero =>
      intro k hk S2 f2 hB2
      obtain rfl : k = 4 := by omega
      obtain ⟨-, -, a3⟩ := q_mr_all (m := m) hi 4 (Nat.le_refl _)
      have e15 : q_mr v m np 4 15 = v 15 := a3 15 (fun _ _ => by omega) (fun _ _ => by omega)
      refine e_walk (stops := [45]) 20 ?_
      refine And.intro (fun _ => ?_) (fun c => absurd (by decide) c)
      refine q_X4_penceFor (by omega) hB2.2.2.1 ?_
      rw [q_pence_eq e15]
      refine e_walk (stops := [48]) 20 ?_
      refine q_X0_endMarch (v := q_mr v m np 4) hnp hni hnl hB2 (fun S3 f3 hB3 => ?_)
      refine e_walk (stops := []) 20 ?_
      refine h S3 ((q_f0.f9 f1).trans ((q_f0.fb f2).trans (q_f0.fb f3))) ?_
      unfold q_march
      rw [show v 6 = q_mr v m np 4 6 from (a3 6 (fun _ _ => by omega) (fun _ _ => by omega)).symm, show v 7 = q_mr v m np 4 7 from (a3 7 (fun _ _ => by omega) (fun _ _ => by omega)).symm, show v 9 = q_mr v m np 4 9 from (a3 9 (fun _ _ => by omega) (fun _ _ => by omega)).symm, show v 8 = q_mr v m np 4 8 from (a3 8 (fun _ _ => by omega) (fun _ _ => by omega)).symm]
      exact hB3
    | succ d ih =>
      intro k hk S2 f2 hB2
      have ih := ih (k + 1) (by omega)
      rw [q_mr] at ih
      have e9 : mI S2 9 0 k = q_pl v m np k := by rw [f2.1 9 0 (by unfold q_rgn; omega)]; exact g1 k (by omega)
      refine e_walk (stops := [22]) 20 ?_
      refine And.intro (fun c => absurd c (nI_ge (a := k) (b := 4) (by omega) (by decide))) (fun _ => ?_)
      refine q_X4_playerOf (by omega) ?_
      rw [e9]
      refine e_walk (stops := [26]) 20 ?_
      refine q_X4_breathOfPart ?_
      refine e_walk (stops := [29]) 20 ?_
      rcases q_pl_could v m np k with y | ⟨p, y1, y2, y3⟩
      · rw [decide_eq_true y] at ih
        rw [y]
        refine q_X0_noPart hnp hB2.1.1 ?_
        refine e_walk (stops := [8]) 20 ?_
        show e_Run tb_X4_playMarch post e_no 8 [some (aR 0 0), some (aI (nI m)), some (aI (nI (q_sh v m np 4))), some (aI (nI k + 1))] [] S2 0 0
        rw [nI_1]
        exact ih S2 f2 hB2
      · rw [decide_eq_false (by rw [y2]; exact q_nIne (by omega)), cond_false, y2, nI_clamp (by omega)] at ih
        obtain ⟨i, kk, j1, j2, j3, j4, j5, j6⟩ := hi.plays y1 (q_could_all y3).1
        rw [j2, Nat.add_sub_cancel] at ih
        obtain ⟨-, a2, a3⟩ := q_mr_all (m := m) hi k (by omega)
        obtain ⟨dd, d1, d2⟩ := a2 i j1
        have c4 : q_of (q_mr v m np k) p 4 = nI (i + 1) := (a3 _ (fun _ _ => by omega) (fun _ _ => by omega)).trans j3
        have c2 : q_its (q_mr v m np k) i 2 = nI (p + 1) := (a3 _ (fun _ _ => by omega) (fun _ _ => by omega)).trans j4
        rw [y2]
        refine q_X0_playPart (i := i) (d := dd) hnp hni hnl hB2 y1 j1 c4 (by rw [c2]; exact nI_lt (a := 0) (by omega) (by omega)) d2 d1 rfl (fun S3 f3 hB3 => ?_)
        refine e_walk (stops := [8]) 20 ?_
        show e_Run tb_X4_playMarch post e_no 8 [some (aR 0 0), some (aI (nI m)), some (aI (nI (q_sh v m np 4))), some (aI (nI k + 1))] [] S3 0 0
        rw [nI_1]
        exact ih S3 (f2.trans f3) hB3
  refine e_walk (stops := [8]) 20 ?_
  exact loop 4 0 rfl S1 q_fb.rf hB1
theorem q_X4_partNumber {m k w : Nat} (hv : q_ok0 v np ni) (hl : q_lips v np) (hB : q_B S 0 v np ni nl) (hm : m < 4) (hk : k < 4) (hw : w < 4) (h : ∀ S2, q_f1 9 0 S S2 → post (some (aI (q_partTold v m np k w))) S2) : w_X4_partNumber [aR 0 0, aI (nI m), aI (nI k), aI (nI w)] S post := by
  refine e_walk (stops := [33, 38, 44, 50]) 20 ?_
  rcases (show w = 0 ∨ w = 1 ∨ w = 2 ∨ w = 3 by omega) with rfl | rfl | rfl | rfl
  · exact And.intro (fun _ => q_X4_kindOfPart hm hk (e_walk (stops := []) 20 (h S q_f1.rf))) (fun c => absurd rfl c)
  · exact And.intro (fun c => absurd c (by decide)) (fun _ => And.intro (fun _ => q_X4_breathOfPart (e_walk (stops := []) 20 (h S q_f1.rf))) (fun c => absurd rfl c))
  · exact And.intro (fun c => absurd c (by decide)) (fun _ => And.intro (fun c => absurd c (by decide)) (fun _ => And.intro (fun _ => q_X4_lipsOfPart (e_walk (stops := []) 20 (h S q_f1.rf))) (fun c => absurd rfl c)))
  · refine And.intro (fun c => absurd c (by decide)) (fun _ => And.intro (fun c => absurd c (by decide)) (fun _ => And.intro (fun c => absurd c (by decide)) (fun _ => ?_)))
    refine q_X4_fillLineUp hv hl hB hm (fun S2 f2 g2 => ?_)
    refine e_walk (stops := [56]) 20 ?_
    refine q_X4_playerOf hk ?_
    rw [g2 k hk]
    exact e_walk (stops := []) 20 (h S2 f2)
theorem q_X4_countNumber {w sn : Nat} (hi : q_inv B v np ni nl) (hB : q_B S 0 v np ni nl) (hs : mI S 0 0 4 = nI sn) (hw : w < 19) (h : post (some (aI (q_cTold v np sn w))) S) : w_X4_countNumber [aR 0 0, aI (nI w)] S post := by
  by_cases h15 : w < 15
  · refine e_walk (stops := [57]) 20 ?_
    refine And.intro (fun c => absurd ((nI_eq (b := 15) (by omega) (by decide)).mp c) (by omega)) (fun _ => And.intro (fun c => absurd ((nI_eq (b := 16) (by omega) (by decide)).mp c) (by omega)) (fun _ => And.intro (fun c => absurd ((nI_eq (b := 17) (by omega) (by decide)).mp c) (by omega)) (fun _ => And.intro (fun c => absurd ((nI_eq (b := 18) (by omega) (by decide)).mp c) (by omega)) (fun _ => ?_))))
    exact q_X0_number hi hB h15 sn (e_walk (stops := []) 20 h)
  · rcases (show w = 15 ∨ w = 16 ∨ w = 17 ∨ w = 18 by omega) with rfl | rfl | rfl | rfl
    · refine e_walk (stops := [43]) 20 ?_
      refine And.intro (fun _ => ?_) (fun c => absurd rfl c)
      show w_X0_settingAt [aR 1 0, aI (nI 0)] S _
      exact q_X0_settingAt (k := 0) hB.2.2.1 (by decide) (e_walk (stops := []) 20 h)
    · refine e_walk (stops := [43]) 20 ?_
      refine And.intro (fun c => absurd c (by decide)) (fun _ => And.intro (fun _ => ?_) (fun c => absurd rfl c))
      show w_X0_settingAt [aR 1 0, aI (nI 1)] S _
      exact q_X0_settingAt (k := 1) hB.2.2.1 (by decide) (e_walk (stops := []) 20 h)
    · refine e_walk (stops := [43]) 20 ?_
      refine And.intro (fun c => absurd c (by decide)) (fun _ => And.intro (fun c => absurd c (by decide)) (fun _ => And.intro (fun _ => ?_) (fun c => absurd rfl c)))
      show w_X0_settingAt [aR 1 0, aI (nI 2)] S _
      exact q_X0_settingAt (k := 2) hB.2.2.1 (by decide) (e_walk (stops := []) 20 h)
    · refine e_walk (stops := []) 20 ?_
      refine And.intro (fun c => absurd c (by decide)) (fun _ => And.intro (fun c => absurd c (by decide)) (fun _ => And.intro (fun c => absurd c (by decide)) (fun _ => And.intro (fun _ => ?_) (fun c => absurd rfl c))))
      show post (some (aI (mI S 0 0 4))) S
      rw [hs]
      exact h
theorem q_X4_played {mm ss : Nat} (hB : q_B S 0 v np ni nl) (h6 : v 6 = nI mm) (h7 : v 7 = nI ss) (hs : ss ≤ 4 * mm) (hm : 4 * mm < 2 ^ 20) (h : post (some (aD (q_shr mm ss))) S) : w_X4_played [aR 0 0] S post := by
  unfold q_shr at h
  have e10 : mI S 1 0 10 = nI mm := (hB.2.1 1 (by decide)).trans h6
  have e11 : mI S 1 0 11 = nI ss := (hB.2.1 2 (by decide)).trans h7
  refine e_walk (stops := [8]) 20 ?_
  show e_Run tb_X4_played post e_no 8 [some (aR 0 0), none] [aI (nI 4), aI (mI S 1 0 10)] S 0 0
  rw [e10]
  refine e_walk (stops := [9]) 1 ?_
  show e_Run tb_X4_played post e_no 9 [some (aR 0 0), none] [aI (nI mm * nI 4)] S 0 0
  rw [nI_mul, Nat.mul_comm mm 4]
  refine e_walk (stops := [24]) 20 ?_
  refine And.intro (fun c => ?_) (fun c => ?_)
  · have c : ¬ mm = 0 := fun z => by rw [z] at c; exact absurd c (by decide)
    rw [if_neg c] at h
    show e_Run tb_X4_played post e_no 24 [some (aR 0 0), some (aI (nI (4 * mm)))] [aI (mI S 1 0 11), aI (nI (4 * mm))] S 0 0
    rw [e11]
    refine e_walk (stops := [25]) 1 ?_
    show e_Run tb_X4_played post e_no 25 [some (aR 0 0), some (aI (nI (4 * mm)))] [aI (nI (4 * mm) - nI ss)] S 0 0
    rw [q_sub hs]
    refine e_walk (stops := []) 20 ?_
    exact And.intro (fp_share (by omega) (by omega) (by omega)).1 h
  · have c : mm = 0 := Nat.eq_zero_of_not_pos (fun z => c (nI_lt (a := 0) (by omega) (by omega)))
    rw [if_pos c] at h
    exact h
end Plays
