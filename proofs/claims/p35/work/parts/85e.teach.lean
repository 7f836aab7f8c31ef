/-! The law: lessons, and whom a lesson helps. Own work (wip/p35/laws). -/
section LawTeach
variable {S S1 S2 : eM} {post : eQ} {v v2 : qV} {n np ni nl : Nat} {d : z_D}
def z_low (x : Int32) (k : Nat) : Nat := x.toBitVec.toNat % 2 ^ 31 % k
theorem z_low_lt {x : Int32} {k : Nat} (h : 0 < k) : z_low x k < k := Nat.mod_lt _ h
theorem L_low {x : Int32} {k : Nat} (h0 : 0 < k) (hk : k < 65536) (h : post (some (aI (nI (z_low x k)))) S) : w_L_low [aI x, aI (nI k)] S post := by
  refine e_walk (stops := [4]) 10 ?_
  show e_Run tb_L_low post e_no 4 [some (aI x), some (aI (nI k))] [aI (x &&& 2147483647)] S 0 0
  rw [pk_and x 31 (by decide)]
  refine e_walk (stops := []) 10 ?_
  refine And.intro (nI_ne0 h0 (by omega)) ?_
  show post (some (aI (nI (x.toBitVec.toNat % 2 ^ 31) - nI (x.toBitVec.toNat % 2 ^ 31) / nI k * nI k))) S
  rw [pk_rem (Nat.mod_lt _ (by decide)) h0 (by omega)]
  exact h
theorem z_x3 (a b c : Int32) : a - b + c = a + c - b := by
  simp only [Int32.sub_eq_add_neg]
  exact z_r2 _ _ _
theorem z_cp_teach {p t : Nat} (hp : p < 10) : q_cp v (q_teach v p t) = v := funext fun j => by
  unfold q_cp
  split
  · rfl
  · exact q_teach_at (by omega) (by omega) (by omega) (by omega) (by omega) (by omega)
set_option maxHeartbeats 8000000 in
theorem L_teaches {p t : Nat} (hY : z_Y n S v d) (hi : q_inv n v np ni nl) (hp : p < np) (ht : t < 3) (h0 : ∀ S2, z_Y n S2 v d → post (some (aI 1)) S2) (h1 : q_whyLesson v p t = 0 → ∀ S2, z_Y n S2 (q_teach v p t) (z_nx d v) → post (some (aI 1)) S2) : w_L_teaches [aR 0 0, aI (nI p), aI (nI t)] S post := by
  have hnp := hi.1.1
  have hw4 := q_whyLesson_le v p t
  show e_Run tb_L_teaches post e_no 0 [some (aR 0 0), some (aI (nI p)), some (aI (nI t)), none, none, none, none, none, none, none] [] S 20 120
  refine e_walk (stops := [6]) 60 ?_
  refine And.intro (by omega) (And.intro (by omega) ?_)
  refine m_noLesson hY hi hp ht rfl (fun S1 hY => ?_)
  refine e_walk (stops := [13]) 60 ?_
  refine And.intro (by omega) (And.intro (by omega) ?_)
  refine m_pupilOf (w := 2) (r := q_of v p 2) hY hi hp (by decide) rfl (fun S2 hY => ?_)
  refine e_walk (stops := [21]) 60 ?_
  refine And.intro (by omega) (And.intro (by omega) ?_)
  refine m_pupilOf (w := 1) (r := q_of v p 1) hY hi hp (by decide) rfl (fun S3 hY => ?_)
  show e_Run tb_L_teaches post e_no 21 [some (aR 0 0), some (aI (nI p)), some (aI (nI t)), some (aI (nI (q_whyLesson v p t))), some (aI (q_of v p 2)), none, none, none, none, none] [aI (q_of v p 1)] S3 _ _
  refine e_walk (stops := [28]) 60 ?_
  refine And.intro (by omega) (And.intro (by omega) ?_)
  refine m_count (w := 5) (r := v 5) hY hi (by decide) rfl (fun S4 hY => ?_)
  refine e_walk (stops := [36]) 60 ?_
  refine And.intro (by omega) (And.intro (by omega) ?_)
  refine m_count (w := 8) (r := v 8 + 1000000) hY hi (by decide) rfl (fun S5 hY => ?_)
  show e_Run tb_L_teaches post e_no 36 [some (aR 0 0), some (aI (nI p)), some (aI (nI t)), some (aI (nI (q_whyLesson v p t))), some (aI (q_of v p 2)), some (aI (q_of v p 1)), some (aI (v 5)), none, none, none] [aI (v 8 + 1000000)] S5 _ _
  refine e_walk (stops := [44]) 60 ?_
  refine And.intro (by omega) (And.intro (by omega) ?_)
  refine l_tryTeach hY hi hp ht (fun w S6 hY => ?_) (fun w => ?_)
  · have hi2 := q_inv_teach hi hp ht w
    obtain ⟨w1, w2, w3, w4⟩ := q_whyLesson_all w
    obtain ⟨i, kd, i1, i2, i3, i4, i5, i6⟩ := hi.plays hp w1
    obtain ⟨a, b, c, hh, ⟨e0, e1, e2, e4⟩, ⟨f1, f2, f3, f4, f5, f6⟩, g5, g4⟩ := hi.2.1 p hp
    have t4 : q_of (q_teach v p t) p 4 = nI (i + 1) := (q_teach_at (by omega) (by omega) (by omega) (by omega) (by omega) (by omega)).trans i3
    have t0 : q_its (q_teach v p t) i 0 = q_its v i 0 := q_teach_at (by omega) (by omega) (by omega) (by omega) (by omega) (by omega)
    have t2 : q_of (q_teach v p t) p 2 = q_of v p 2 + 1 := by
      rw [q_of, q_teach, q_un (by omega), q_un (by omega), q_un (by omega), q_un (by omega), q_un (by omega), q_ue]
    have t1 : q_of (q_teach v p t) p 1 = q_of v p 1 - 3 - q_its v i 0 := by
      rw [q_of, q_teach, q_un (by omega), q_un (by omega), q_un (by omega), q_un (by omega), q_ue, i2]; rfl
    have t5 : q_of (q_teach v p t) p 5 = 1 := by
      rw [q_of, q_teach, q_un (by omega), q_un (by omega), q_un (by omega), q_ue]
    have s5 : q_teach v p t 5 = v 5 + 1 := by
      rw [q_teach, q_un (by omega), q_un (by omega), q_ue]
    have s8 : q_teach v p t 8 = v 8 - nI (q_fee t) := by rw [q_teach, q_ue]
    have hlim : ¬ nI (8 + 6 * t) < q_of v p 2 + 1 := by
      rw [e2] at w3 ⊢
      have := (nI_ltI (by omega) (by omega)).mp w3
      rw [nI_1]
      exact nI_nlt (by omega) (by omega)
    have hfee : v 8 - nI (q_fee t) + 1000000 = v 8 + 1000000 - nI (q_fee t) := z_x3 _ _ _
    have why2 := z_why5 (t := t) t5
    have why4 := q_whyLesson_le (q_teach v p t) p t
    show e_Run tb_L_teaches post e_no 44 [some (aR 0 0), some (aI (nI p)), some (aI (nI t)), some (aI (nI (q_whyLesson v p t))), some (aI (q_of v p 2)), some (aI (q_of v p 1)), some (aI (v 5)), some (aI (v 8 + 1000000)), none, none] [aI (q_of v p 2 + 1)] S6 _ _
    refine e_walk (stops := [92]) 60 ?_
    refine And.intro (fun _ => ?_) (fun z => absurd ((by rw [w]; decide)) z)
    refine And.intro (by omega) (And.intro (by omega) ?_)
    refine m_pupilOf (w := 4) (r := nI i) hY hi2 hp (by decide) (p_4.trans (by rw [t4]; exact nI_pred i)) (fun S7 hY => ?_)
    refine e_walk (stops := [96]) 60 ?_
    refine And.intro (by omega) (And.intro (by omega) ?_)
    refine m_instrumentOf (w := 0) (r := q_its v i 0) hY hi2 i1 (by decide) (i_0.trans t0) (fun S8 hY => ?_)
    show e_Run tb_L_teaches post e_no 96 [some (aR 0 0), some (aI (nI p)), some (aI (nI t)), some (aI (nI (q_whyLesson v p t))), some (aI (q_of v p 2)), some (aI (q_of v p 1)), some (aI (v 5)), some (aI (v 8 + 1000000)), some (aI (q_of v p 2 + 1)), none] [aI (q_its v i 0)] S8 _ _
    refine e_walk (stops := [113]) 60 ?_
    refine And.intro (fun _ => ?_) (fun z => absurd (rfl) z)
    refine And.intro (by omega) (And.intro (by omega) ?_)
    refine m_pupilOf (w := 2) (r := q_of v p 2 + 1) hY hi2 hp (by decide) (p_2.trans t2) (fun S9 hY => ?_)
    have fin : ∀ S, z_Y n S (q_teach v p t) (z_nx d v) → ∀ bc bs, 2 ≤ bc → 12 ≤ bs → ∀ l3 l4 l5 l6 l7 l8 l9, e_Run tb_L_teaches post e_no 205 [some (aR 0 0), some (aI (nI p)), some (aI (nI t)), l3, l4, l5, l6, l7, l8, l9] [] S bc bs := by
      intro S hY bc bs hb hs l3 l4 l5 l6 l7 l8 l9
      refine e_walk (stops := [211]) 60 ?_
      refine And.intro (by omega) (And.intro (by omega) ?_)
      refine m_noLesson hY hi2 hp ht rfl (fun S1 hY => ?_)
      refine e_walk (stops := [220]) 60 ?_
      refine And.intro (fun z => absurd z (nI_nle why2 (by omega))) (fun _ => ?_)
      refine And.intro (by omega) (And.intro (by omega) ?_)
      refine m_pupilOf (w := 5) (r := 1) hY hi2 hp (by decide) (p_5.trans t5) (fun S2 hY => ?_)
      refine e_walk (stops := []) 60 ?_
      exact And.intro (fun _ => h1 w S2 hY) (fun z => absurd rfl z)
    show e_Run tb_L_teaches post e_no 113 [some (aR 0 0), some (aI (nI p)), some (aI (nI t)), some (aI (nI (q_whyLesson v p t))), some (aI (q_of v p 2)), some (aI (q_of v p 1)), some (aI (v 5)), some (aI (v 8 + 1000000)), some (aI (q_of v p 2 + 1)), some (aI (q_its v i 0))] [aI (q_of v p 2 + 1)] S9 _ _
    rcases (show t = 0 ∨ t = 1 ∨ t = 2 by omega) with rfl | rfl | rfl
    · refine e_walk (stops := [150]) 60 ?_
      refine And.intro (fun _ => ?_) (fun z => absurd (rfl) z)
      refine And.intro (fun _ => ?_) (fun z => absurd (rfl) z)
      refine And.intro (fun z => absurd z (hlim)) (fun _ => ?_)
      refine And.intro (by omega) (And.intro (by omega) ?_)
      refine m_pupilOf (w := 1) (r := q_of v p 1 - 3 - q_its v i 0) hY hi2 hp (by decide) (p_1.trans t1) (fun S10 hY => ?_)
      refine e_walk (stops := [165]) 60 ?_
      refine And.intro (fun _ => ?_) (fun z => absurd (rfl) z)
      refine And.intro (by omega) (And.intro (by omega) ?_)
      refine m_count (w := 5) (r := v 5 + 1) hY hi2 (by decide) (c_5.trans s5) (fun S11 hY => ?_)
      refine e_walk (stops := [178]) 60 ?_
      refine And.intro (fun _ => ?_) (fun z => absurd (rfl) z)
      refine And.intro (by omega) (And.intro (by omega) ?_)
      refine m_count (w := 8) (r := v 8 - nI (q_fee 0) + 1000000) hY hi2 (by decide) (c_8.trans (by rw [s8])) (fun S12 hY => ?_)
      refine e_walk (stops := [205]) 60 ?_
      refine And.intro (fun _ => ?_) (fun z => absurd (rfl) z)
      refine And.intro (fun _ => ?_) (fun z => absurd (hfee) z)
      exact fin S12 hY _ _ (by omega) (by omega) _ _ _ _ _ _ _
    · refine e_walk (stops := [150]) 60 ?_
      refine And.intro (fun _ => ?_) (fun z => absurd (rfl) z)
      refine And.intro (fun z => absurd z (by decide)) (fun _ => ?_)
      refine And.intro (fun _ => ?_) (fun z => absurd (rfl) z)
      refine And.intro (fun z => absurd z (hlim)) (fun _ => ?_)
      refine And.intro (by omega) (And.intro (by omega) ?_)
      refine m_pupilOf (w := 1) (r := q_of v p 1 - 3 - q_its v i 0) hY hi2 hp (by decide) (p_1.trans t1) (fun S10 hY => ?_)
      refine e_walk (stops := [165]) 60 ?_
      refine And.intro (fun _ => ?_) (fun z => absurd (rfl) z)
      refine And.intro (by omega) (And.intro (by omega) ?_)
      refine m_count (w := 5) (r := v 5 + 1) hY hi2 (by decide) (c_5.trans s5) (fun S11 hY => ?_)
      refine e_walk (stops := [178]) 60 ?_
      refine And.intro (fun _ => ?_) (fun z => absurd (rfl) z)
      refine And.intro (by omega) (And.intro (by omega) ?_)
      refine m_count (w := 8) (r := v 8 - nI (q_fee 1) + 1000000) hY hi2 (by decide) (c_8.trans (by rw [s8])) (fun S12 hY => ?_)
      refine e_walk (stops := [205]) 60 ?_
      refine And.intro (fun z => absurd z (by decide)) (fun _ => ?_)
      refine And.intro (fun _ => ?_) (fun z => absurd (rfl) z)
      refine And.intro (fun _ => ?_) (fun z => absurd (hfee) z)
      exact fin S12 hY _ _ (by omega) (by omega) _ _ _ _ _ _ _
    · refine e_walk (stops := [150]) 60 ?_
      refine And.intro (fun _ => ?_) (fun z => absurd (rfl) z)
      refine And.intro (fun z => absurd z (by decide)) (fun _ => ?_)
      refine And.intro (fun z => absurd z (by decide)) (fun _ => ?_)
      refine And.intro (fun z => absurd z (hlim)) (fun _ => ?_)
      refine And.intro (by omega) (And.intro (by omega) ?_)
      refine m_pupilOf (w := 1) (r := q_of v p 1 - 3 - q_its v i 0) hY hi2 hp (by decide) (p_1.trans t1) (fun S10 hY => ?_)
      refine e_walk (stops := [165]) 60 ?_
      refine And.intro (fun _ => ?_) (fun z => absurd (rfl) z)
      refine And.intro (by omega) (And.intro (by omega) ?_)
      refine m_count (w := 5) (r := v 5 + 1) hY hi2 (by decide) (c_5.trans s5) (fun S11 hY => ?_)
      refine e_walk (stops := [178]) 60 ?_
      refine And.intro (fun _ => ?_) (fun z => absurd (rfl) z)
      refine And.intro (by omega) (And.intro (by omega) ?_)
      refine m_count (w := 8) (r := v 8 - nI (q_fee 2) + 1000000) hY hi2 (by decide) (c_8.trans (by rw [s8])) (fun S12 hY => ?_)
      refine e_walk (stops := [205]) 60 ?_
      refine And.intro (fun z => absurd z (by decide)) (fun _ => ?_)
      refine And.intro (fun z => absurd z (by decide)) (fun _ => ?_)
      refine And.intro (fun _ => ?_) (fun z => absurd (hfee) z)
      exact fin S12 hY _ _ (by omega) (by omega) _ _ _ _ _ _ _
  · show e_Run tb_L_teaches post e_no 44 [some (aR 0 0), some (aI (nI p)), some (aI (nI t)), some (aI (nI (q_whyLesson v p t))), some (aI (q_of v p 2)), some (aI (q_of v p 1)), some (aI (v 5)), some (aI (v 8 + 1000000)), none, none] [aI (-7002)] S5 _ _
    refine e_walk (stops := [64]) 60 ?_
    refine And.intro (fun z => absurd z (nI_nle w (by omega))) (fun _ => ?_)
    refine And.intro (fun _ => ?_) (fun z => absurd (rfl) z)
    refine And.intro (by omega) (And.intro (by omega) ?_)
    refine m_pupilOf (w := 2) (r := q_of v p 2) hY hi hp (by decide) rfl (fun S7 hY => ?_)
    refine e_walk (stops := [74]) 60 ?_
    refine And.intro (fun _ => ?_) (fun z => absurd (rfl) z)
    refine And.intro (by omega) (And.intro (by omega) ?_)
    refine m_count (w := 5) (r := v 5) hY hi (by decide) rfl (fun S8 hY => ?_)
    refine e_walk (stops := []) 60 ?_
    exact And.intro (fun _ => h0 S8 hY) (fun z => absurd rfl z)
set_option maxHeartbeats 8000000 in
theorem L_helpsSo {m t : Nat} (hY : z_Y n S v d) (hi : q_inv n v np ni nl) (hm : m < 4) (ht : t < 3) (h : ∀ S2 d2, z_Y n S2 v d2 → post (some (aI 1)) S2) : w_L_helpsSo [aR 0 0, aI (nI m), aI (nI t)] S post := by
  have hnp := hi.1.1
  have hsh := q_sh_le v m np 4
  have loop : ∀ q, q ≤ np → ∀ (S1 : eM) (d : z_D) (bc bs : Nat), z_Y n S1 v d → 3 * q ≤ bc → 18 * q ≤ bs → e_Run tb_L_helpsSo post e_no 26 [some (aR 0 0), some (aI (nI m)), some (aI (nI t)), some (aI (q_hl v m np t (np - q) q)), some (aI (nI (q_sh v m np 4))), some (aI (q_hl v m np t np 0)), some (aI (nI q - 1))] [] S1 bc bs := by
    intro q
    induction q with
    | zero =>
      intro hq S1 d bc bs hY hb hs
      refine e_walk (stops := []) 60 ?_
      refine And.intro (fun _ => ?_) (fun z => absurd (by decide) z)
      exact And.intro (fun _ => h S1 d hY) (fun z => absurd rfl z)
    | succ q ih =>
      intro hq S1 d bc bs hY hb hs
      have hdef : q_hl v m np t (np - q) q = cond (q_hp v m np t q) (nI q) (q_hl v m np t (np - (q + 1)) (q + 1)) := by
        rw [show np - q = np - (q + 1) + 1 by omega]; rfl
      have back : ∀ (S2 : eM) (d : z_D) (bc bs : Nat), z_Y n S2 v d → 3 * q ≤ bc → 18 * q ≤ bs → e_Run tb_L_helpsSo post e_no 67 [some (aR 0 0), some (aI (nI m)), some (aI (nI t)), some (aI (q_hl v m np t (np - q) q)), some (aI (nI (q_sh v m np 4))), some (aI (q_hl v m np t np 0)), some (aI (nI q))] [] S2 bc bs := by
        intro S2 d bc bs hY hb hs
        refine e_walk (stops := [26]) 60 ?_
        show e_Run tb_L_helpsSo post e_no 26 [some (aR 0 0), some (aI (nI m)), some (aI (nI t)), some (aI (q_hl v m np t (np - q) q)), some (aI (nI (q_sh v m np 4))), some (aI (q_hl v m np t np 0)), some (aI (nI q + -1))] [] S2 bc bs
        rw [← Int32.sub_eq_add_neg]
        exact ih (by omega) S2 d bc bs hY hb hs
      rw [nI_pred]
      refine e_walk (stops := [38]) 60 ?_
      refine And.intro (fun z => absurd z (nI_pos (by omega))) (fun _ => ?_)
      refine And.intro (by omega) (And.intro (by omega) ?_)
      refine l_tryTeach (p := q) hY hi (by omega) ht (fun w S2 hY => ?_) (fun w => ?_)
      · obtain ⟨a, b, c, hh, ⟨e0, e1, e2, e4⟩, f, g5, g4⟩ := hi.2.1 q (by omega)
        have hi2 := q_inv_teach hi (p := q) (by omega) ht w
        have hs2 := q_sh_le (q_teach v q t) m np 4
        have hp : q_hp v m np t q = decide (q_sh (q_teach v q t) m np 4 < q_sh v m np 4) := by
          unfold q_hp
          rw [decide_eq_true w]; rfl
        rw [hp] at hdef
        refine e_walk (stops := [46]) 60 ?_
        refine And.intro (fun z => absurd z (by rw [e2, nI_1]; exact nI_pos (by omega))) (fun _ => ?_)
        refine And.intro (by omega) (And.intro (by omega) ?_)
        refine m_shortOf hY hi2 hm rfl (fun S3 hY => ?_)
        by_cases c2 : q_sh (q_teach v q t) m np 4 < q_sh v m np 4
        · rw [decide_eq_true c2] at hdef
          refine e_walk (stops := [62]) 60 ?_
          refine And.intro (fun z => absurd z (nI_ge c2 (by omega))) (fun _ => ?_)
          refine And.intro (by omega) (And.intro (by omega) ?_)
          refine l_undo hY hi2 (fun S4 hY => ?_)
          rw [z_cp_teach (by omega)] at hY
          refine e_walk (stops := [67]) 60 ?_
          refine And.intro (fun _ => ?_) (fun z => absurd (nI_pos' (by omega)) z)
          have z := back S4 _ (bc - 1 - 1 - 1) (bs - 6 - 6 - 6) hY (by omega) (by omega)
          rw [hdef] at z
          exact z
        · rw [decide_eq_false c2] at hdef
          refine e_walk (stops := [62]) 60 ?_
          refine And.intro (fun _ => ?_) (fun z => absurd (nI_le (by omega) (by omega)) z)
          refine And.intro (by omega) (And.intro (by omega) ?_)
          refine l_undo hY hi2 (fun S4 hY => ?_)
          rw [z_cp_teach (by omega)] at hY
          refine e_walk (stops := [67]) 60 ?_
          refine And.intro (fun _ => ?_) (fun z => absurd (nI_pos' (by omega)) z)
          have z := back S4 _ (bc - 1 - 1 - 1) (bs - 6 - 6 - 6) hY (by omega) (by omega)
          rw [hdef] at z
          exact z
      · have hp : q_hp v m np t q = false := by
          unfold q_hp
          rw [decide_eq_false (by omega)]; rfl
        rw [hp] at hdef
        refine e_walk (stops := [67]) 60 ?_
        refine And.intro (fun _ => ?_) (fun z => absurd (by decide) z)
        have z := back S1 _ (bc - 1) (bs - 6) hY (by omega) (by omega)
        rw [hdef] at z
        exact z
  refine e_walk (stops := [7]) 60 ?_
  refine And.intro (by omega) (And.intro (by omega) ?_)
  refine m_shortOf hY hi hm rfl (fun S1 hY => ?_)
  refine e_walk (stops := [15]) 60 ?_
  refine And.intro (by omega) (And.intro (by omega) ?_)
  refine m_helps hY hi hm ht rfl (fun S2 hY => ?_)
  refine e_walk (stops := [22]) 60 ?_
  refine And.intro (by omega) (And.intro (by omega) ?_)
  refine m_count (w := 0) (r := nI np) hY hi (by decide) hi.1.2.2.2.1 (fun S3 hY => ?_)
  refine e_walk (stops := [26]) 60 ?_
  have z := loop np (Nat.le_refl _) S3 d (40 - 1 - 1 - 1) (240 - 6 - 6 - 6) hY (by omega) (by omega)
  rw [Nat.sub_self] at z
  exact z
end LawTeach
