/-! What walks come to: the system's works. Own work. -/
section Work2
variable {S S1 S2 : eM} {post : eQ} {X : eX} {v sp : qV} {sv : Nat → qV} {sn ln n : Nat} {tk : Bool} {f : Nat → Int32} {B b np ni nl : Nat} {a a2 : Nat → Nat}
theorem q_fg_fit {x c : Int32} (hc : (decide (48 ≤ c) && decide (c ≤ 57)) = true) (h : q_fit x c = true) : q_fg x = x - 48 := by
  unfold q_fit at h
  rw [hc, cond_true, Bool.and_eq_true, decide_eq_true_eq, decide_eq_true_eq] at h
  rw [Bool.and_eq_true, decide_eq_true_eq, decide_eq_true_eq] at hc
  unfold q_fg
  rw [if_neg h.1, if_neg (fun z => h.2 (Int32.lt_of_le_of_lt hc.2 z))]
theorem q_sg {st w k : Nat} (hf : q_fin f ln st = true) (hw : q_wd f ln st = w) (hk : k < (q_form w).length) : st + k < ln ∧ q_fit (f (st + k)) ((q_form w).getD k 0) = true := by
  unfold q_fin at hf
  rw [Bool.and_eq_true, decide_eq_true_eq, decide_eq_true_eq, hw] at hf
  exact ((q_lm_ge f ln (q_form w) st (q_form w).length).mp (Nat.le_of_eq hf.2.symm)).2 k hk
theorem q_en {st w : Nat} (hf : q_fin f ln st = true) (hw : q_wd f ln st = w) : q_end f ln st = st + (q_form w).length := by
  unfold q_fin at hf
  rw [Bool.and_eq_true, decide_eq_true_eq, decide_eq_true_eq, hw] at hf
  unfold q_end
  rw [hw, hf.2]
theorem q_X4_doPart {st io : Nat} (hT : q_T1 S 1 io f ln) (h60 : ln ≤ 60) (hi : q_inv B v np ni nl) (hB : q_B S 0 v np ni nl) (hst : st ≤ ln) (hf : q_fin f ln st = true) (hy : q_err v np ni (q_x f ln st) (q_y f ln st) (q_wd f ln st) = 0 → ∀ S2 nl2, q_f0 S S2 → q_B S2 0 (q_act v np (q_x f ln st) (q_y f ln st) (q_wd f ln st)) np ni nl2 → q_inv (B + 1) (q_act v np (q_x f ln st) (q_y f ln st) (q_wd f ln st)) np ni nl2 → post (some (aI 1)) S2) (hn : q_err v np ni (q_x f ln st) (q_y f ln st) (q_wd f ln st) ≠ 0 → post (some (aI 0)) S) : w_X4_doPart [aR 0 0, aI (nI st), aI (nI (q_end f ln st))] S post := by
  have hnp := hi.1.1
  have hni := hi.1.2.1
  have hnl := hi.1.2.2.1
  have hle := (q_end_le (f := f) hst).1
  have hw6 := q_fin_lt hf
  have hlen : 3 ≤ (q_form (q_wd f ln st)).length := by
    have key : ∀ w, w < 6 → 3 ≤ (q_form w).length := by decide
    exact key _ hw6
  have hen := q_en hf rfl
  have hwh : q_wh f ln st (q_end f ln st) = true := by unfold q_wh; rw [hf, decide_eq_true rfl]; rfl
  have hsg : ∀ k, k < (q_form (q_wd f ln st)).length → st + k < ln ∧ q_fit (f (st + k)) ((q_form (q_wd f ln st)).getD k 0) = true := fun k hk => q_sg hf rfl hk
  have hx : q_x f ln st = f (st + q_wl (q_wd f ln st)) - 48 := rfl
  have hy2 : q_y f ln st = f (st + q_wl (q_wd f ln st) + 1) - 48 := rfl
  have fig : ∀ (pc j : Nat) (K : eQ), j < ln → K (some (aI (q_fg (f j)))) S → w_X3_figureAt [aR 12 0, aI (nI j)] S K := fun pc j K hj hK =>
    q_X3_figureAt hT (fun j2 hj2 e => by
      have : j = j2 := (nI_eq (by omega) (by omega)).mp e
      subst this
      exact hK) (fun z => absurd z (by rw [q_ix_mk (by omega) hj]; decide))
  refine e_walk (stops := [7]) 20 ?_
  show e_Run tb_X4_doPart post e_no 7 [some (aR 0 0), some (aI (nI st)), some (aI (nI (q_end f ln st))), none] [aI (nI (q_end f ln st) - nI 1), aR 12 0] S 0 0
  rw [q_sub (by omega)]
  refine e_walk (stops := [10]) 20 ?_
  refine fig 0 _ _ (by omega) ?_
  refine e_walk (stops := [20]) 20 ?_
  refine q_X3_wholeWord hT (by omega) hle ?_
  rw [hwh, cond_true]
  have go : ∀ last, last = q_fg (f (q_end f ln st - 1)) → e_Run tb_X4_doPart post e_no 20 [some (aR 0 0), some (aI (nI st)), some (aI (nI (q_end f ln st))), some (aI last)] [aI (nI (q_wd f ln st))] S 0 0 := by
    intro last hlast
    generalize q_x f ln st = x at *
    generalize q_y f ln st = y at *
    generalize q_end f ln st = en at *
    have sec : ∀ w, q_wd f ln st = w → 2 ≤ en → ∀ (pc : Nat), en - 2 < ln := fun w _ _ _ => by omega
    generalize q_wd f ln st = w at *
    have done1 : ∀ S2 nl2 v2, q_f0 S S2 → v2 = q_act v np x y w → q_B S2 0 v2 np ni nl2 → q_inv (B + 1) v2 np ni nl2 → q_err v np ni x y w = 0 → post (some (aI 1)) S2 := fun S2 nl2 v2 f2 e b2 i2 z => by
      rw [e] at b2 i2
      exact hy z S2 nl2 f2 b2 i2
    rcases (show w = 0 ∨ w = 1 ∨ w = 2 ∨ w = 3 ∨ w = 4 ∨ w = 5 by omega) with rfl | rfl | rfl | rfl | rfl | rfl
    · have l0 : en = st + 6 := hen
      have s4 := (hsg 4 (by decide)).2
      have s5 := (hsg 5 (by decide)).2
      have e4 : q_fg (f (en - 2)) = x := by rw [show en - 2 = st + 4 by omega, q_fg_fit (c := 57) (by decide) s4]; exact hx.symm
      have e5 : last = y := by rw [hlast, show en - 1 = st + 5 by omega, q_fg_fit (c := 57) (by decide) s5]; exact hy2.symm
      subst e5
      refine e_walk (stops := [71]) 20 ?_
      refine And.intro (fun _ => ?_) (fun c => absurd rfl c)
      show e_Run tb_X4_doPart post e_no 71 [some (aR 0 0), some (aI (nI st)), some (aI (nI en)), some (aI last)] [aI (nI en - nI 2), aR 12 0, aR 1 0] S 0 0
      rw [q_sub (by omega)]
      refine e_walk (stops := [74]) 20 ?_
      refine fig 0 _ _ (by omega) ?_
      rw [e4]
      refine e_walk (stops := [78]) 20 ?_
      refine q_X0_tryLend hi hB (fun i p ii pp e e2 hw S3 f3 hB3 => ?_) (fun z => ?_)
      · refine e_walk (stops := []) 20 ?_
        refine done1 S3 (nl + 1) _ (q_f0.fb f3) ?_ hB3 ((q_inv_lend hi ii pp hw).2.mono (by omega)) ?_
        · show _ = q_lend v (q_nlv v) x.toNatClampNeg last.toNatClampNeg
          rw [e, e2, nI_clamp (by omega), nI_clamp (by omega), hi.nlq]
        · show q_lendE v np ni x last = 0
          unfold q_lendE
          rw [e, e2, q_ix_mk (by omega) ii, q_ix_mk (by omega) pp, nI_clamp (by omega), nI_clamp (by omega), hw]; rfl
      · exact e_walk (stops := []) 20 (hn z)
    · have l0 : en = st + 5 := hen
      have s4 := (hsg 4 (by decide)).2
      have e5 : last = x := by rw [hlast, show en - 1 = st + 4 by omega, q_fg_fit (c := 57) (by decide) s4]; exact hx.symm
      subst e5
      refine e_walk (stops := [87]) 20 ?_
      refine And.intro (fun c => absurd c (by decide)) (fun _ => And.intro (fun _ => ?_) (fun c => absurd rfl c))
      refine q_X0_tryBack hi hB (fun i p ii pp e hl hz S3 f3 hB3 => ?_) (fun z => ?_)
      · refine e_walk (stops := []) 20 ?_
        refine done1 S3 _ _ (q_f0.fb f3) ?_ hB3 ((q_inv_back hi ii pp hl).mono (by omega)) hz
        show _ = q_back v (q_nlv v) last.toNatClampNeg ((q_its v last.toNatClampNeg 2).toNatClampNeg - 1)
        rw [e, nI_clamp (by omega), hl, nI_clamp (by omega), hi.nlq, Nat.add_sub_cancel]
      · exact e_walk (stops := []) 20 (hn z)
    · have l0 : en = st + 7 := hen
      have s5 := (hsg 5 (by decide)).2
      have s6 := (hsg 6 (by decide)).2
      have e4 : q_fg (f (en - 2)) = x := by rw [show en - 2 = st + 5 by omega, q_fg_fit (c := 57) (by decide) s5]; exact hx.symm
      have e5 : last = y := by rw [hlast, show en - 1 = st + 6 by omega, q_fg_fit (c := 50) (by decide) s6]; exact hy2.symm
      subst e5
      refine e_walk (stops := [99]) 20 ?_
      refine And.intro (fun c => absurd c (by decide)) (fun _ => And.intro (fun c => absurd c (by decide)) (fun _ => And.intro (fun _ => ?_) (fun c => absurd rfl c)))
      show e_Run tb_X4_doPart post e_no 99 [some (aR 0 0), some (aI (nI st)), some (aI (nI en)), some (aI last)] [aI (nI en - nI 2), aR 12 0, aR 1 0] S 0 0
      rw [q_sub (by omega)]
      refine e_walk (stops := [102]) 20 ?_
      refine fig 0 _ _ (by omega) ?_
      rw [e4]
      refine e_walk (stops := [106]) 20 ?_
      refine q_X0_tryTeach hi hB (fun p t pp tt e e2 hw S3 f3 hB3 => ?_) (fun z => ?_)
      · refine e_walk (stops := []) 20 ?_
        refine done1 S3 nl _ (q_f0.fb f3) ?_ hB3 ((q_inv_teach hi pp tt hw).mono (by omega)) ?_
        · show _ = q_teach v x.toNatClampNeg last.toNatClampNeg
          rw [e, e2, nI_clamp (by omega), nI_clamp (by omega)]
        · show q_teachE v np x last = 0
          unfold q_teachE
          rw [e, e2, q_ix_mk (by omega) pp, q_ix_mk (by omega) tt, nI_clamp (by omega), nI_clamp (by omega), hw]; rfl
      · exact e_walk (stops := []) 20 (hn z)
    · have l0 : en = st + 6 := hen
      have s5 := (hsg 5 (by decide)).2
      have e5 : last = x := by rw [hlast, show en - 1 = st + 5 by omega, q_fg_fit (c := 51) (by decide) s5]; exact hx.symm
      subst e5
      have hn : q_marchE v last ≠ 0 → post (some (aI 0)) S := hn
      have done1 : ∀ S2 nl2 v2, q_f0 S S2 → v2 = q_march v last.toNatClampNeg np → q_B S2 0 v2 np ni nl2 → q_inv (B + 1) v2 np ni nl2 → q_marchE v last = 0 → post (some (aI 1)) S2 := done1
      refine e_walk (stops := [111]) 20 ?_
      refine And.intro (fun c => absurd c (by decide)) (fun _ => And.intro (fun c => absurd c (by decide)) (fun _ => And.intro (fun c => absurd c (by decide)) (fun _ => And.intro (fun _ => ?_) (fun c => absurd rfl c))))
      refine q_X4_isMarch ?_
      unfold q_marchE at hn done1
      cases z : q_ix last 4 with
      | false =>
        rw [z] at hn
        refine e_walk (stops := []) 20 ?_
        exact And.intro (fun _ => hn (show (1 : Nat) ≠ 0 by decide)) (fun c => absurd rfl c)
      | true =>
        obtain ⟨m, hm, rfl⟩ := q_ix_of (by decide) z
        rw [z] at hn done1
        refine e_walk (stops := [121]) 20 ?_
        refine And.intro (fun c => absurd c (by decide)) (fun _ => ?_)
        refine q_X0_mayMarch hi hB ?_
        cases z2 : (q_sun v && decide (¬ v 4 = 1)) with
        | false =>
          rw [z2] at hn
          refine e_walk (stops := []) 20 ?_
          exact And.intro (fun _ => hn (by decide)) (fun c => absurd rfl c)
        | true =>
          rw [z2] at done1
          refine e_walk (stops := [131]) 20 ?_
          refine And.intro (fun c => absurd c (by decide)) (fun _ => ?_)
          refine q_X4_playMarch hi hB hm (fun S3 f3 hB3 => ?_)
          refine e_walk (stops := []) 20 ?_
          exact done1 S3 nl _ f3 (by rw [nI_clamp (by omega)]) hB3 (q_inv_march hi hm) rfl
    · have l0 : en = st + 5 := hen
      have s4 := (hsg 4 (by decide)).2
      have e5 : last = x := by rw [hlast, show en - 1 = st + 4 by omega, q_fg_fit (c := 57) (by decide) s4]; exact hx.symm
      subst e5
      refine e_walk (stops := [142]) 20 ?_
      refine And.intro (fun c => absurd c (by decide)) (fun _ => And.intro (fun c => absurd c (by decide)) (fun _ => And.intro (fun c => absurd c (by decide)) (fun _ => And.intro (fun c => absurd c (by decide)) (fun _ => And.intro (fun _ => ?_) (fun c => absurd rfl c)))))
      refine q_X0_tryMend hi hB (fun i ii e hz S3 f3 hB3 => ?_) (fun z => ?_)
      · refine e_walk (stops := []) 20 ?_
        refine done1 S3 nl _ (q_f0.fb f3) ?_ hB3 ((q_inv_mend hi ii).mono (by omega)) hz
        show _ = q_mend v last.toNatClampNeg
        rw [e, nI_clamp (by omega)]
      · exact e_walk (stops := []) 20 (hn z)
    · refine e_walk (stops := [150]) 20 ?_
      refine And.intro (fun c => absurd c (by decide)) (fun _ => And.intro (fun c => absurd c (by decide)) (fun _ => And.intro (fun c => absurd c (by decide)) (fun _ => And.intro (fun c => absurd c (by decide)) (fun _ => And.intro (fun c => absurd c (by decide)) (fun _ => And.intro (fun _ => ?_) (fun c => absurd rfl c))))))
      refine q_X0_passDay hnp hni hnl hB (fun S3 f3 hB3 => ?_)
      refine e_walk (stops := []) 20 ?_
      exact done1 S3 nl _ (q_f0.fb f3) rfl hB3 ((q_inv_ps (dd := 1) hi (by decide)).mono (by omega)) rfl
  exact go _ rfl
theorem q_f0.T1 {s i : Nat} (h : q_T1 S s i f ln) (g : q_f0 S S2) : q_T1 S2 s i f ln := h.eqm (fun i => ⟨g.1 10 i (fun z => by unfold q_rgn at z; omega) (by omega), g.1 11 i (fun z => by unfold q_rgn at z; omega) (by omega), by rw [g.2.1]⟩)
/-- the walk over one part's signs, up to its end -/
theorem q_scan {p bc bs : Nat} {dn : Int32} (hT : q_T1 S 1 b f ln) (h60 : ln ≤ 60) (hp : p ≤ ln) (h : e_Run tb_X4_work post X 33 [some (aR 0 0), some (aI dn), some (aI (nI p)), some (aI 1), some (aI (nI (q_end f ln p)))] [] S bc bs) : ∀ d k, k + d = q_end f ln p → p ≤ k → e_Run tb_X4_work post X 33 [some (aR 0 0), some (aI dn), some (aI (nI p)), some (aI 1), some (aI (nI k))] [] S bc bs := by
  have hle := (q_end_le (f := f) hp).1
  intro d
  induction d with
  | zero =>
    intro k hk _
    obtain rfl : k = q_end f ln p := by omega
    exact h
  | succ d ih =>
    intro k hk hpk
    refine e_walk (stops := [46]) 20 ?_
    refine And.intro (fun c => absurd c (by decide)) (fun _ => ?_)
    refine q_X3_length hT ?_
    refine e_walk (stops := [58]) 20 ?_
    refine And.intro (fun c => absurd ((nI_ltI (show ln < 2 ^ 31 by omega) (show k < 2 ^ 31 by omega)).mp c) (by omega)) (fun _ => ?_)
    refine q_X3_isEndOfPart hT (by omega) ?_
    rw [decide_eq_false (show ¬ k = ln by omega), decide_eq_false (q_no59 hpk (show k < q_end f ln p by omega))]
    refine e_walk (stops := [33]) 20 ?_
    refine And.intro (fun _ => ?_) (fun c => absurd rfl c)
    show e_Run tb_X4_work post X 33 [some (aR 0 0), some (aI dn), some (aI (nI p)), some (aI 1), some (aI (nI k + 1))] [] S bc bs
    rw [nI_1]
    exact ih (k + 1) (by omega) (by omega)
theorem q_wk_loop {io bc bs : Nat} (hT : q_T1 S 1 io f ln) (h60 : ln ≤ 60) : ∀ n p v dn B nl, ln + 1 ≤ p + n → p ≤ ln → (q_rd f ln n p).1 = true → ∀ S1, q_f0 S S1 → q_B S1 0 v np ni nl → q_inv B v np ni nl → (∀ S2 nl2, q_f0 S S2 → q_B S2 0 (q_wk f ln np ni n p v dn).1 np ni nl2 → q_inv (B + n) (q_wk f ln np ni n p v dn).1 np ni nl2 → ∀ l2 l3 l4, e_Run tb_X4_work post X 92 [some (aR 0 0), some (aI (nI (q_wk f ln np ni n p v dn).2)), l2, l3, l4] [] S2 bc bs) → e_Run tb_X4_work post X 33 [some (aR 0 0), some (aI (nI dn)), some (aI (nI p)), some (aI 1), some (aI (nI p))] [] S1 bc bs := by
  intro n
  induction n with
  | zero => intro p v dn B nl h1 h2; omega
  | succ n ih =>
    intro p v dn B nl h1 h2 hr S1 f1 hB hi h
    have hf := q_rd_fin hr
    rw [q_rd, hf, cond_true] at hr
    obtain ⟨b1, b2⟩ := q_end_le (f := f) h2
    have hT1 := q_f0.T1 hT f1
    rw [q_wk] at h
    have hend : (decide (q_end f ln p = ln) || decide (f (q_end f ln p) = 59)) = true := by
      by_cases c : q_end f ln p = ln
      · rw [decide_eq_true c]; rfl
      · rw [decide_eq_false c, cond_false] at hr
        cases c2 : (decide (q_end f ln p < ln) && decide (f (q_end f ln p) = 59)) with
        | false => rw [c2] at hr; exact absurd (show false = true from hr) (by decide)
        | true =>
          rw [Bool.and_eq_true] at c2
          rw [c2.2, Bool.or_true]
    refine q_scan hT1 h60 h2 ?_ (q_end f ln p - p) p (by omega) (Nat.le_refl _)
    refine e_walk (stops := [46]) 20 ?_
    refine And.intro (fun c => absurd c (by decide)) (fun _ => ?_)
    refine q_X3_length hT1 ?_
    refine e_walk (stops := [58]) 20 ?_
    refine And.intro (fun c => absurd ((nI_ltI (show ln < 2 ^ 31 by omega) (show q_end f ln p < 2 ^ 31 by omega)).mp c) (by omega)) (fun _ => ?_)
    refine q_X3_isEndOfPart hT1 b1 ?_
    rw [hend, cond_true]
    refine e_walk (stops := [68]) 20 ?_
    refine And.intro (fun c => absurd c (by decide)) (fun _ => ?_)
    refine q_X4_doPart hT1 h60 hi hB h2 hf (fun z S2 nl2 f2 hB2 hi2 => ?_) (fun z => ?_)
    · rw [decide_eq_true z, cond_true] at h
      refine e_walk (stops := [33]) 30 ?_
      refine And.intro (fun c => absurd c (by decide)) (fun _ => ?_)
      show e_Run tb_X4_work post X 33 [some (aR 0 0), some (aI (nI dn + 1)), some (aI (nI (q_end f ln p) + 1)), some (aI 1), some (aI (nI (q_end f ln p) + 1))] [] S2 bc bs
      rw [nI_1, nI_1]
      by_cases c : q_end f ln p = ln
      · rw [decide_eq_true c, cond_true] at h
        rw [c]
        refine e_walk (stops := [46]) 20 ?_
        refine And.intro (fun c => absurd c (by decide)) (fun _ => ?_)
        refine q_X3_length (q_f0.T1 hT (f1.trans f2)) ?_
        refine e_walk (stops := [92]) 20 ?_
        refine And.intro (fun _ => ?_) (fun c => absurd (nI_lt (a := ln) (b := ln + 1) (by omega) (by omega)) c)
        exact h S2 nl2 (f1.trans f2) hB2 (hi2.mono (by omega)) _ _ _
      · rw [decide_eq_false c, cond_false] at h hr
        cases c2 : (decide (q_end f ln p < ln) && decide (f (q_end f ln p) = 59)) with
        | false => rw [c2] at hr; exact absurd (show false = true from hr) (by decide)
        | true =>
          rw [c2, cond_true] at hr
          rw [Bool.and_eq_true, decide_eq_true_eq] at c2
          exact ih (q_end f ln p + 1) _ (dn + 1) (B + 1) nl2 (by omega) (by omega) hr S2 (f1.trans f2) hB2 hi2 (fun S3 nl3 f3 hB3 hi3 => h S3 nl3 f3 hB3 (hi3.mono (by omega)))
    · rw [decide_eq_false z, cond_false] at h
      refine e_walk (stops := [92]) 40 ?_
      refine And.intro (fun _ => And.intro (fun _ => ?_) (fun c => absurd rfl c)) (fun c => absurd rfl c)
      show e_Run tb_X4_work post X 92 [some (aR 0 0), some (aI (nI dn + 0)), _, _, _] [] S1 bc bs
      rw [Int32.add_zero]
      exact h S1 nl f1 hB (hi.mono (by omega)) _ _ _
theorem q_X4_work (hB : q_B S 0 v np ni nl) (hi : q_inv B v np ni nl) (hR : q_ho S sv sn sp tk f ln B a) (g1 : (q_rd f ln (ln + 1) 0).1 = false → X q_IA S) (g0 : (q_rd f ln (ln + 1) 0).1 = true → ∀ S2, q_w S S2 → q_Y S2 (q_wk f ln np ni (ln + 1) 0 v 0).1 (q_sv sv sn v) (min sn 5 + 1) sp tk f 0 (B + 61) → post (some (aI (nI (q_wk f ln np ni (ln + 1) 0 v 0).2))) S2) : x_X4_work [aR 0 0] S post X := by
  obtain ⟨hln, i0, io, f0, n0, hio, hT0, hT1⟩ := hR.2.2.2.2
  refine e_walk (stops := [7]) 20 ?_
  refine q_X3_isComplete hT1 ?_
  cases hr : (q_rd f ln (ln + 1) 0).1 with
  | false =>
    refine e_walk (stops := []) 20 ?_
    exact And.intro (fun _ => ⟨rfl, by decide, by decide, g1 hr⟩) (fun c => absurd rfl c)
  | true =>
    have g0 := g0 hr
    refine e_walk (stops := [24]) 20 ?_
    refine And.intro (fun c => absurd c (by decide)) (fun _ => ?_)
    refine q_X4_save hR hB hi (fun S2 a2 w2 hB2 hR2 => ?_)
    obtain ⟨hln2, i2, io2, f2, n2, hio2, hT02, hT12⟩ := hR2.2.2.2.2
    refine e_walk (stops := [33]) 20 ?_
    refine q_wk_loop hT12 hln (ln + 1) 0 v 0 B nl (by omega) (Nat.zero_le _) hr S2 q_f0.rf hB2 hi (fun S3 nl3 f3 hB3 hi3 l2 l3 l4 => ?_)
    generalize q_wk f ln np ni (ln + 1) 0 v 0 = r at *
    refine e_walk (stops := [99]) 20 ?_
    refine And.intro (by decide) (And.intro (by decide) ?_)
    refine q_X3_clear (q_f0.T1 hT12 f3) (q_f0.T1 hT02 f3) hio2.symm (fun S4 i4 fx hi4 hT4 hO4 => ?_)
    have g4 := q_g.fx fx
    refine e_walk (stops := []) 20 ?_
    exact g0 S4 ((w2.trans (q_w.f0 f3)).trans (q_w.g g4)) ⟨_, _, _, a2, hB3.g g4, hi3.mono (by omega), ((hR2.f0 f3).g g4 ⟨by omega, i2, i4, f2, n2, hi4.symm, hO4, hT4⟩).mono (by omega)⟩
end Work2
