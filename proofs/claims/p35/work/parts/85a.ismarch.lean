/-! The law: a line-up, and what is told of it, hangs together. Own work (wip/p35/laws). -/
section LawMarch
variable {S S1 S2 : eM} {post : eQ} {v v2 : qV} {n np ni nl : Nat} {d : z_D}
theorem L_isMarch {m : Nat} (hY : z_Y n S v d) (hi : q_inv n v np ni nl) (hm : m < 4) (h : ∀ S2, z_Y n S2 v d → post (some (aI 1)) S2) : w_L_isMarch [aR 0 0, aI (nI m)] S post := by
  have hnp := hi.1.1
  have hni := hi.1.2.1
  have h35 := q_tl_35 m hm
  have h31 := z_tl31 m hm
  have hsh := q_sh_le v m np 4
  have hl : ∀ c t, t + c = 3 → ∀ (S1 : eM) (x3 : Int32) (l6 l7 : Option eV) (bc bs : Nat), z_Y n S1 v d → 2 * c + 16 ≤ bc → 12 * c + 1056 ≤ bs → e_Run tb_L_isMarch post e_no 235 [some (aR 0 0), some (aI (nI m)), some (aI (nI (q_sh v m np 4))), some (aI x3), some (aI 1), some (aI (nI t)), l6, l7] [] S1 bc bs := by
    intro c
    induction c with
    | zero =>
      intro t ht S1 x3 l6 l7 bc bs hY hb hs
      obtain rfl : t = 3 := by omega
      refine e_walk (stops := [300]) 60 ?_
      refine And.intro (fun _ => ?_) (fun z => absurd (by decide) z)
      refine And.intro (fun z => absurd z (by decide)) (fun _ => ?_)
      refine And.intro (by omega) (And.intro (by omega) ?_)
      refine m_told (k := 36) hY hi hm (by decide) ((q_ch_end hnp 4 0 36 rfl).mpr (by omega)) (fun S2 hY => ?_)
      refine e_walk (stops := []) 60 ?_
      exact And.intro (fun _ => h S2 hY) (fun z => absurd rfl z)
    | succ c ih =>
      intro t ht S1 x3 l6 l7 bc bs hY hb hs
      rcases z_hl (v := v) (np := np) (m := m) (t := t) np 0 (by omega) with y | ⟨p, y1, y2, y3, y4⟩
      · refine e_walk (stops := [248]) 60 ?_
        refine And.intro (fun z => absurd z (nI_ge (a := t) (b := 3) (by omega) (by decide))) (fun _ => ?_)
        refine And.intro (by omega) (And.intro (by omega) ?_)
        refine m_helps hY hi hm (by omega) y (fun S2 hY => ?_)
        refine e_walk (stops := [235]) 60 ?_
        refine And.intro (fun z => absurd z (by decide)) (fun _ => ?_)
        refine And.intro (fun _ => ?_) (fun z => absurd (by decide) z)
        show e_Run tb_L_isMarch post e_no 235 [some (aR 0 0), some (aI (nI m)), some (aI (nI (q_sh v m np 4))), some (aI x3), some (aI 1), some (aI (nI t + 1)), some (aI (-1)), l7] [] S2 _ _
        rw [nI_1]
        exact ih (t + 1) (by omega) S2 _ _ _ _ _ hY (by omega) (by omega)
      · refine e_walk (stops := [248]) 60 ?_
        refine And.intro (fun z => absurd z (nI_ge (a := t) (b := 3) (by omega) (by decide))) (fun _ => ?_)
        refine And.intro (by omega) (And.intro (by omega) ?_)
        refine m_helps hY hi hm (by omega) y2 (fun S2 hY => ?_)
        refine e_walk (stops := [268]) 60 ?_
        refine And.intro (fun z => absurd z (by decide)) (fun _ => ?_)
        refine And.intro (fun z => absurd z (nI_pos (by omega))) (fun _ => ?_)
        refine And.intro (by omega) (And.intro (by omega) ?_)
        refine m_noLesson (r := 0) hY hi y1 (by omega) (by rw [y3]; rfl) (fun S3 hY => ?_)
        refine e_walk (stops := [235]) 60 ?_
        refine And.intro (fun _ => ?_) (fun z => absurd (rfl) z)
        refine And.intro (fun z => absurd z (nI_nle (by omega) (by omega))) (fun _ => ?_)
        show e_Run tb_L_isMarch post e_no 235 [some (aR 0 0), some (aI (nI m)), some (aI (nI (q_sh v m np 4))), some (aI x3), some (aI 1), some (aI (nI t + 1)), some (aI (nI p)), l7] [] S3 _ _
        rw [nI_1]
        exact ih (t + 1) (by omega) S3 _ _ _ _ _ hY (by omega) (by omega)
  have tl : ∀ c k, k + c = 23 → ∀ (S1 : eM) (x3 : Int32) (l6 l7 : Option eV) (bc bs : Nat), z_Y n S1 v d → 16 * c + 22 ≤ bc → 1056 * c + 1092 ≤ bs → e_Run tb_L_isMarch post e_no 195 [some (aR 0 0), some (aI (nI m)), some (aI (nI (q_sh v m np 4))), some (aI x3), some (aI 1), some (aI (nI k)), l6, l7] [] S1 bc bs := by
    intro c
    induction c with
    | zero =>
      intro k hk S1 x3 l6 l7 bc bs hY hb hs
      obtain rfl : k = 23 := by omega
      refine e_walk (stops := [235]) 60 ?_
      refine And.intro (fun _ => ?_) (fun z => absurd (by decide) z)
      exact hl 3 0 rfl S1 x3 l6 l7 bc bs hY (by omega) (by omega)
    | succ c ih =>
      intro k hk S1 x3 l6 l7 bc bs hY hb hs
      refine e_walk (stops := [214]) 60 ?_
      refine And.intro (fun z => absurd z (nI_ge (a := k) (b := 23) (by omega) (by decide))) (fun _ => ?_)
      refine And.intro (fun z => absurd z (by decide)) (fun _ => ?_)
      refine And.intro (by omega) (And.intro (by omega) ?_)
      refine m_told (k := k) hY hi hm (by omega) rfl (fun S2 hY => ?_)
      refine e_walk (stops := [195]) 60 ?_
      refine And.intro (fun z => absurd z (Int32.not_le.mpr (z_ch32 hnp 4 0 k rfl (by omega)))) (fun _ => ?_)
      show e_Run tb_L_isMarch post e_no 195 [some (aR 0 0), some (aI (nI m)), some (aI (nI (q_sh v m np 4))), some (aI x3), some (aI 1), some (aI (nI k + 1)), l6, l7] [] S2 _ _
      rw [nI_1]
      exact ih (k + 1) (by omega) S2 _ _ _ _ _ hY (by omega) (by omega)
  have pl : ∀ c k, k + c = 4 → ∀ (S1 : eM) (l5 l6 l7 : Option eV) (bc bs : Nat), z_Y n S1 v d → 9 * c + 393 ≤ bc → 54 * c + 25398 ≤ bs → e_Run tb_L_isMarch post e_no 7 [some (aR 0 0), some (aI (nI m)), some (aI (nI (q_sh v m np k))), some (aI (q_tk v m np k)), some (aI (nI k)), l5, l6, l7] [] S1 bc bs := by
    intro c
    induction c with
    | zero =>
      intro k hk S1 l5 l6 l7 bc bs hY hb hs
      obtain rfl : k = 4 := by omega
      obtain ⟨u, hu, eu, lu⟩ := z_most (v := v) (m := m) hnp
      refine e_walk (stops := [161]) 60 ?_
      refine And.intro (fun _ => ?_) (fun z => absurd (by decide) z)
      refine And.intro (by omega) (And.intro (by omega) ?_)
      refine m_shortOf hY hi hm rfl (fun S2 hY => ?_)
      refine e_walk (stops := [170]) 60 ?_
      refine And.intro (fun _ => ?_) (fun z => absurd (rfl) z)
      refine And.intro (by omega) (And.intro (by omega) ?_)
      refine m_most hY hi hm eu (fun S3 hY => ?_)
      refine e_walk (stops := [181]) 60 ?_
      refine And.intro (fun z => absurd z (by show ¬ nI u < 4 - nI (q_sh v m np 4); rw [show (4 : Int32) - nI (q_sh v m np 4) = nI (4 - q_sh v m np 4) from q_sub (a := 4) hsh]; exact nI_nlt (by omega) (by omega))) (fun _ => ?_)
      refine And.intro (by omega) (And.intro (by omega) ?_)
      refine m_most hY hi hm eu (fun S4 hY => ?_)
      refine e_walk (stops := [195]) 60 ?_
      refine And.intro (fun z => absurd z (nI_nlt (a := 4) (b := u) hu (by decide))) (fun _ => ?_)
      exact tl 23 0 rfl S4 _ l6 l7 _ _ hY (by omega) (by omega)
    | succ c ih =>
      intro k hk S1 l5 l6 l7 bc bs hY hb hs
      rcases q_pl_could v m np k with y | ⟨p, y1, y2, y3⟩
      · have esh : q_sh v m np (k + 1) = q_sh v m np k + 1 := by
          show q_sh v m np k + cond _ 1 0 = _
          rw [decide_eq_true y]; rfl
        have etk : q_tk v m np (k + 1) = q_tk v m np k := by
          show cond (decide (q_pl v m np k = -1)) _ _ = _
          rw [decide_eq_true y]; rfl
        refine e_walk (stops := [21]) 60 ?_
        refine And.intro (fun z => absurd z (nI_ge (a := k) (b := 4) (by omega) (by decide))) (fun _ => ?_)
        refine And.intro (by omega) (And.intro (by omega) ?_)
        refine m_part (w := 3) (r := -1) hY hi hm (by omega) (by decide) y (fun S2 hY => ?_)
        refine e_walk (stops := [7]) 60 ?_
        refine And.intro (fun z => absurd z (by decide)) (fun _ => ?_)
        refine And.intro (fun _ => ?_) (fun z => absurd (by decide) z)
        show e_Run tb_L_isMarch post e_no 7 [some (aR 0 0), some (aI (nI m)), some (aI (nI (q_sh v m np k) + 1)), some (aI (q_tk v m np k)), some (aI (nI k + 1)), some (aI (-1)), l6, l7] [] S2 _ _
        rw [nI_1, nI_1, ← esh, ← etk]
        exact ih (k + 1) (by omega) S2 _ _ _ _ _ hY (by omega) (by omega)
      · have hne : ¬ q_pl v m np k = -1 := by rw [y2]; exact q_nIne (by omega)
        have esh : q_sh v m np (k + 1) = q_sh v m np k := by
          show q_sh v m np k + cond _ 1 0 = _
          rw [decide_eq_false hne]; rfl
        have etk : q_tk v m np (k + 1) = q_tk v m np k ||| (1 : Int32) <<< (nI p &&& 31) := by
          show cond (decide (q_pl v m np k = -1)) _ (q_tk v m np k ||| (1 : Int32) <<< (q_pl v m np k &&& 31)) = _
          rw [decide_eq_false hne, y2]; rfl
        have hbit : q_tk v m np k >>> (nI p &&& 31) &&& 1 = 0 := by
          rcases q_bst_free v m k (q_tk v m np k) np with z | ⟨j, j1, j2, j3⟩
          · exact absurd z hne
          · have : j = p := (nI_eq (by omega) (by omega)).mp (j2.symm.trans y2)
            rw [this] at j3
            exact of_decide_eq_true j3
        obtain ⟨c1, c2, c3, c4⟩ := q_could_all y3
        obtain ⟨i, kk, i1, i2, i3, i4, i5, i6⟩ := hi.plays y1 c1
        rw [i2] at c2
        have c5 : q_its v i 1 < 5 := by
          unfold q_plays at c1
          rw [Bool.and_eq_true, i2] at c1
          exact of_decide_eq_true c1.2
        refine e_walk (stops := [21]) 60 ?_
        refine And.intro (fun z => absurd z (nI_ge (a := k) (b := 4) (by omega) (by decide))) (fun _ => ?_)
        refine And.intro (by omega) (And.intro (by omega) ?_)
        refine m_part (w := 3) (r := nI p) hY hi hm (by omega) (by decide) y2 (fun S2 hY => ?_)
        refine e_walk (stops := [48]) 60 ?_
        refine And.intro (fun _ => ?_) (fun z => absurd (nI_pos' (by omega)) z)
        refine And.intro (fun z => absurd z (nI_pos (by omega))) (fun _ => ?_)
        refine And.intro (by omega) (And.intro (by omega) ?_)
        refine m_pupilOf (w := 4) (r := nI i) hY hi y1 (by decide) (show q_of v p 4 - 1 = nI i by rw [i3]; exact nI_pred i) (fun S3 hY => ?_)
        refine e_walk (stops := [71]) 60 ?_
        refine And.intro (fun _ => ?_) (fun z => absurd (hbit) z)
        refine And.intro (fun z => absurd z (nI_pos (by omega))) (fun _ => ?_)
        refine And.intro (by omega) (And.intro (by omega) ?_)
        refine m_instrumentOf (w := 0) (r := nI (q_kf m k)) hY hi i1 (by decide) c2 (fun S4 hY => ?_)
        refine e_walk (stops := [79]) 60 ?_
        refine And.intro (by omega) (And.intro (by omega) ?_)
        refine m_part (w := 0) (r := nI (q_kf m k)) hY hi hm (by omega) (by decide) rfl (fun S5 hY => ?_)
        refine e_walk (stops := [89]) 60 ?_
        refine And.intro (fun _ => ?_) (fun z => absurd (rfl) z)
        refine And.intro (by omega) (And.intro (by omega) ?_)
        refine m_instrumentOf (w := 5) (r := 1) hY hi i1 (by decide) (show cond (decide (q_its v i 1 < 5)) 1 0 = (1 : Int32) by rw [decide_eq_true c5]; rfl) (fun S6 hY => ?_)
        refine e_walk (stops := [100]) 60 ?_
        refine And.intro (fun _ => ?_) (fun z => absurd (rfl) z)
        refine And.intro (by omega) (And.intro (by omega) ?_)
        refine m_pupilOf (w := 1) (r := q_of v p 1) hY hi y1 (by decide) rfl (fun S7 hY => ?_)
        refine e_walk (stops := [108]) 60 ?_
        refine And.intro (by omega) (And.intro (by omega) ?_)
        refine m_part (w := 1) (r := nI (4 + 2 * k)) hY hi hm (by omega) (by decide) rfl (fun S8 hY => ?_)
        refine e_walk (stops := [118]) 60 ?_
        refine And.intro (fun z => absurd z (c3)) (fun _ => ?_)
        refine And.intro (by omega) (And.intro (by omega) ?_)
        refine m_pupilOf (w := 2) (r := q_of v p 2) hY hi y1 (by decide) rfl (fun S9 hY => ?_)
        refine e_walk (stops := [126]) 60 ?_
        refine And.intro (by omega) (And.intro (by omega) ?_)
        refine m_part (w := 2) (r := q_lf m k) hY hi hm (by omega) (by decide) rfl (fun S10 hY => ?_)
        refine e_walk (stops := [7]) 60 ?_
        refine And.intro (fun z => absurd z (c4)) (fun _ => ?_)
        refine And.intro (fun z => absurd z (by decide)) (fun _ => ?_)
        show e_Run tb_L_isMarch post e_no 7 [some (aR 0 0), some (aI (nI m)), some (aI (nI (q_sh v m np k) + 0)), some (aI (q_tk v m np k ||| (1 : Int32) <<< (nI p &&& 31))), some (aI (nI k + 1)), some (aI (nI p)), some (aI (nI i)), some (aI 1)] [] S10 _ _
        rw [Int32.add_zero, nI_1, ← esh, ← etk]
        exact ih (k + 1) (by omega) S10 _ _ _ _ _ hY (by omega) (by omega)
  refine e_walk (stops := [7]) 60 ?_
  exact pl 4 0 rfl S none none none _ _ hY (by decide) (by decide)
end LawMarch
