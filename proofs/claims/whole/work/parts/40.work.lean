/-! What walks come to: the reference does its works; the bits of a share. Own work. -/
section Works
variable {S S2 : eM} {v v2 sp : qV} {sv : Nat → qV} {sn ln : Nat} {tk : Bool} {f : Nat → Int32} {B np ni nl : Nat}
def q_nlv (v : qV) : Nat := (v 2).toNatClampNeg
theorem q_inv.nlq (h : q_inv B v np ni nl) : q_nlv v = nl := q_cl h.1.2.2.2.2.2 (by have := h.1.2.2.1; omega)
/-- why a part can't be done, and what it does -/
def q_err (v : qV) (np ni : Nat) (x y : Int32) : Nat → Nat
  | 0 => q_lendE v np ni x y | 1 => q_backE v ni x | 2 => q_teachE v np x y | 3 => q_marchE v x | 4 => q_mendE v ni x | _ => 0
def q_act (v : qV) (np : Nat) (x y : Int32) : Nat → qV
  | 0 => q_lend v (q_nlv v) x.toNatClampNeg y.toNatClampNeg | 1 => q_back v (q_nlv v) x.toNatClampNeg ((q_its v x.toNatClampNeg 2).toNatClampNeg - 1) | 2 => q_teach v x.toNatClampNeg y.toNatClampNeg | 3 => q_march v x.toNatClampNeg np | 4 => q_mend v x.toNatClampNeg | _ => q_ps v 1 np
theorem q_lendE_lt {x y : Int32} : q_lendE v np ni x y < 65536 := by
  unfold q_lendE
  cases q_ix x ni && q_ix y np with
  | false => exact (by decide : 1 < 65536)
  | true => show (if _ then 2 else 0) < _; split <;> decide
theorem q_err_lt {x y : Int32} : ∀ w, q_err v np ni x y w < 65536
  | 0 => q_lendE_lt | 1 => q_backE_lt | 2 => q_teachE_lt | 3 => q_marchE_lt | 4 => q_mendE_lt | _ + 5 => (by decide : 0 < 65536)
theorem q_backE_ok {x : Int32} (hi : q_inv B v np ni nl) (h : q_backE v ni x = 0) : ∃ i p, i < ni ∧ p < np ∧ x = nI i ∧ q_its v i 2 = nI (p + 1) := by
  have hni := hi.1.2.1
  have hnp := hi.1.1
  unfold q_backE at h
  cases z1 : q_ix x ni with
  | false => rw [z1] at h; exact absurd (show (1 : Nat) = 0 from h) (by decide)
  | true =>
    rw [z1, cond_true] at h
    obtain ⟨i, hii, rfl⟩ := q_ix_of (by omega) z1
    rw [nI_clamp (by omega)] at h
    obtain ⟨k, d, l, ⟨e1, e2, e3⟩, g, -⟩ := hi.2.2.1 i hii
    by_cases z : q_its v i 2 = 0
    · rw [if_pos z] at h; exact absurd h (by decide)
    · have hl : l ≠ 0 := fun y => z (by rw [e3, y]; rfl)
      exact ⟨i, l - 1, hii, by omega, rfl, by rw [e3, show l - 1 + 1 = l by omega]⟩
theorem q_mendE_ok {x : Int32} (hni : ni ≤ 10) (h : q_mendE v ni x = 0) : ∃ i, i < ni ∧ x = nI i ∧ ¬ 0 < q_its v i 2 := by
  unfold q_mendE at h
  cases z1 : q_ix x ni with
  | false => rw [z1] at h; exact absurd (show (1 : Nat) = 0 from h) (by decide)
  | true =>
    rw [z1, cond_true] at h
    obtain ⟨i, hii, rfl⟩ := q_ix_of (by omega) z1
    rw [nI_clamp (by omega)] at h
    refine ⟨i, hii, rfl, fun z => ?_⟩
    rw [if_pos z] at h; exact absurd h (by decide)
theorem q_marchE_ok {x : Int32} (h : q_marchE v x = 0) : (∃ m, m < 4 ∧ x = nI m) ∧ q_sun v = true ∧ ¬ v 4 = 1 := by
  unfold q_marchE at h
  cases z1 : q_ix x 4 with
  | false => rw [z1] at h; exact absurd (show (1 : Nat) = 0 from h) (by decide)
  | true =>
    rw [z1, cond_true] at h
    cases z2 : (q_sun v && decide (¬ v 4 = 1)) with
    | false => rw [z2] at h; exact absurd (show (2 : Nat) = 0 from h) (by decide)
    | true =>
      rw [Bool.and_eq_true, decide_eq_true_eq] at z2
      exact ⟨q_ix_of (by decide) z1, z2⟩
theorem q_act_inv {x y : Int32} (h : q_inv B v np ni nl) : ∀ w, q_err v np ni x y w = 0 → ∃ nl2, q_inv (B + 1) (q_act v np x y w) np ni nl2
  | 0, e => by
    obtain ⟨i, p, hi, hp, rfl, rfl, hw⟩ := q_lendE_ok h.1.1 h.1.2.1 e
    have h1 := h.1.1
    have h2 := h.1.2.1
    refine ⟨nl + 1, ?_⟩
    show q_inv _ (q_lend v (q_nlv v) _ _) _ _ _
    rw [nI_clamp (by omega), nI_clamp (by omega), h.nlq]
    exact (q_inv_lend h hi hp hw).2.mono (by omega)
  | 1, e => by
    obtain ⟨i, p, hi, hp, rfl, hw⟩ := q_backE_ok h e
    have h1 := h.1.1
    have h2 := h.1.2.1
    refine ⟨(q_bk i (q_back0 v i p) nl).2, ?_⟩
    show q_inv _ (q_back v (q_nlv v) _ _) _ _ _
    rw [nI_clamp (by omega), hw, nI_clamp (by omega), h.nlq, Nat.add_sub_cancel]
    exact (q_inv_back h hi hp hw).mono (by omega)
  | 2, e => by
    obtain ⟨p, t, hp, ht, rfl, rfl, hw⟩ := q_teachE_ok h.1.1 e
    have h1 := h.1.1
    refine ⟨nl, ?_⟩
    show q_inv _ (q_teach v _ _) _ _ _
    rw [nI_clamp (by omega), nI_clamp (by omega)]
    exact (q_inv_teach h hp ht hw).mono (by omega)
  | 3, e => by
    obtain ⟨⟨m, hm, rfl⟩, -⟩ := q_marchE_ok e
    refine ⟨nl, ?_⟩
    show q_inv _ (q_march v _ np) _ _ _
    rw [nI_clamp (by omega)]
    exact q_inv_march h hm
  | 4, e => by
    obtain ⟨i, hi, rfl, hw⟩ := q_mendE_ok h.1.2.1 e
    have h2 := h.1.2.1
    refine ⟨nl, ?_⟩
    show q_inv _ (q_mend v _) _ _ _
    rw [nI_clamp (by omega)]
    exact (q_inv_mend h hi).mono (by omega)
  | _ + 5, e => ⟨nl, (q_inv_ps (dd := 1) h (by decide)).mono (by omega)⟩
theorem q_X5_errorOfPart {post : eQ} {w : Nat} {x y : Int32} (hw6 : w < 6) (hv : q_ok0 (mI S 14 0) np ni) (hw : mI S 13 0 11 = nI (w + 1)) (hx : w ≠ 5 → mI S 13 0 12 = x) (hy : w = 0 ∨ w = 2 → mI S 13 0 13 = y) (h : post (some (aI (nI (q_err (mI S 14 0) np ni x y w)))) S) : w_X5_errorOfPart [aR 13 0] S post := by
  refine e_walk (stops := [4]) 20 ?_
  show e_Run tb_X5_errorOfPart post e_no 4 [some (aR 13 0)] [aI (mI S 13 0 11)] S 0 0
  rw [hw]
  rcases (show w = 0 ∨ w = 1 ∨ w = 2 ∨ w = 3 ∨ w = 4 ∨ w = 5 by omega) with rfl | rfl | rfl | rfl | rfl | rfl
  · refine e_walk (stops := [52]) 20 ?_
    refine And.intro (fun _ => ?_) (fun c => absurd (by decide) c)
    show w_X5_lendError [aR 13 0, aI (mI S 13 0 12), aI (mI S 13 0 13)] S _
    rw [hx (by decide), hy (Or.inl rfl)]
    exact q_X5_lendError hv (e_walk (stops := []) 20 h)
  · refine e_walk (stops := [61]) 20 ?_
    refine And.intro (fun c => absurd c (by decide)) (fun _ => And.intro (fun _ => ?_) (fun c => absurd (by decide) c))
    show w_X5_backError [aR 13 0, aI (mI S 13 0 12)] S _
    rw [hx (by decide)]
    exact q_X5_backError hv (e_walk (stops := []) 20 h)
  · refine e_walk (stops := [74]) 20 ?_
    refine And.intro (fun c => absurd c (by decide)) (fun _ => And.intro (fun c => absurd c (by decide)) (fun _ => And.intro (fun _ => ?_) (fun c => absurd (by decide) c)))
    show w_X5_teachError [aR 13 0, aI (mI S 13 0 12), aI (mI S 13 0 13)] S _
    rw [hx (by decide), hy (Or.inr rfl)]
    exact q_X5_teachError hv (e_walk (stops := []) 20 h)
  · refine e_walk (stops := [83]) 20 ?_
    refine And.intro (fun c => absurd c (by decide)) (fun _ => And.intro (fun c => absurd c (by decide)) (fun _ => And.intro (fun c => absurd c (by decide)) (fun _ => And.intro (fun _ => ?_) (fun c => absurd (by decide) c))))
    show w_X5_marchError [aR 13 0, aI (mI S 13 0 12)] S _
    rw [hx (by decide)]
    exact q_X5_marchError (e_walk (stops := []) 20 h)
  · refine e_walk (stops := [92]) 20 ?_
    refine And.intro (fun c => absurd c (by decide)) (fun _ => And.intro (fun c => absurd c (by decide)) (fun _ => And.intro (fun c => absurd c (by decide)) (fun _ => And.intro (fun c => absurd c (by decide)) (fun _ => And.intro (fun _ => ?_) (fun c => absurd (by decide) c)))))
    show w_X5_mendError [aR 13 0, aI (mI S 13 0 12)] S _
    rw [hx (by decide)]
    exact q_X5_mendError hv (e_walk (stops := []) 20 h)
  · refine e_walk (stops := []) 20 ?_
    exact And.intro (fun c => absurd c (by decide)) (fun _ => And.intro (fun c => absurd c (by decide)) (fun _ => And.intro (fun c => absurd c (by decide)) (fun _ => And.intro (fun c => absurd c (by decide)) (fun _ => And.intro (fun c => absurd c (by decide)) (fun _ => h)))))
theorem q_X5_does {post : eQ} {w : Nat} {x y : Int32} (hw6 : w < 6) (hM : q_M S v sv sn sp tk f ln) (hi : q_inv B v np ni nl) (hw : mI S 13 0 11 = nI (w + 1)) (hx : w ≠ 5 → mI S 13 0 12 = x) (hy : w = 0 ∨ w = 2 → mI S 13 0 13 = y) (he : q_err v np ni x y w = 0) (h : ∀ z S2, q_fm S S2 → q_M S2 (q_act v np x y w) sv sn sp tk f ln → mI S2 13 0 = mI S 13 0 → post (some (aI z)) S2) : w_X5_does [aR 13 0] S post := by
  have h1 := hi.1.1
  have h2 := hi.1.2.1
  have hv : q_ok0 (mI S 14 0) np ni := by rw [hM.eqv]; exact hi.ok0
  refine e_walk (stops := [4]) 20 ?_
  show e_Run tb_X5_does post e_no 4 [some (aR 13 0)] [aI (mI S 13 0 11)] S 0 0
  rw [hw]
  rcases (show w = 0 ∨ w = 1 ∨ w = 2 ∨ w = 3 ∨ w = 4 ∨ w = 5 by omega) with rfl | rfl | rfl | rfl | rfl | rfl
  · refine e_walk (stops := [52]) 20 ?_
    refine And.intro (fun _ => ?_) (fun c => absurd (by decide) c)
    show w_X5_doLend [aR 13 0, aI (mI S 13 0 12), aI (mI S 13 0 13)] S _
    rw [hx (by decide), hy (Or.inl rfl)]
    obtain ⟨i, p, ii, pp, rfl, rfl, ww⟩ := q_lendE_ok h1 h2 he
    refine q_X5_doLend (nl := nl) (by omega) (by omega) (q_inv_lend hi ii pp ww).1 (by rw [hM.eqv]; exact hi.1.2.2.2.2.2) (fun S3 f3 e3 => ?_)
    refine e_walk (stops := []) 20 (h _ S3 (q_fm.of1 f3) (hM.of0 f3 (e3.trans ?_)) (f3.1 13 0 (by decide)))
    show _ = q_lend v (q_nlv v) _ _
    rw [hM.eqv, hi.nlq, nI_clamp (by omega), nI_clamp (by omega)]
  · refine e_walk (stops := [61]) 20 ?_
    refine And.intro (fun c => absurd c (by decide)) (fun _ => And.intro (fun _ => ?_) (fun c => absurd (by decide) c))
    show w_X5_doBack [aR 13 0, aI (mI S 13 0 12)] S _
    rw [hx (by decide)]
    obtain ⟨i, p, ii, pp, rfl, ww⟩ := q_backE_ok hi he
    refine q_X5_doBack (p := p) (nl := nl) (by omega) (by omega) hi.1.2.2.1 (by rw [hM.eqv]; exact hi.1.2.2.2.2.2) (by rw [hM.eqv]; exact ww) (fun S3 f3 e3 => ?_)
    refine e_walk (stops := []) 20 (h _ S3 (q_fm.of1 f3) (hM.of0 f3 (e3.trans ?_)) (f3.1 13 0 (by decide)))
    show _ = q_back v (q_nlv v) _ _
    rw [hM.eqv, hi.nlq, nI_clamp (by omega), ww, nI_clamp (by omega), Nat.add_sub_cancel]
  · refine e_walk (stops := [74]) 20 ?_
    refine And.intro (fun c => absurd c (by decide)) (fun _ => And.intro (fun c => absurd c (by decide)) (fun _ => And.intro (fun _ => ?_) (fun c => absurd (by decide) c)))
    show w_X5_doTeach [aR 13 0, aI (mI S 13 0 12), aI (mI S 13 0 13)] S _
    rw [hx (by decide), hy (Or.inr rfl)]
    obtain ⟨p, t, pp, tt, rfl, rfl, ww⟩ := q_teachE_ok h1 he
    refine q_X5_doTeach hv pp tt (by rw [hM.eqv]; exact q_plays_pos (q_whyLesson_0 ww)) (fun S3 f3 e3 => ?_)
    refine e_walk (stops := []) 20 (h _ S3 (q_fm.of1 f3) (hM.of0 f3 (e3.trans ?_)) (f3.1 13 0 (by decide)))
    show _ = q_teach v _ _
    rw [hM.eqv, nI_clamp (by omega), nI_clamp (by omega)]
  · refine e_walk (stops := [83]) 20 ?_
    refine And.intro (fun c => absurd c (by decide)) (fun _ => And.intro (fun c => absurd c (by decide)) (fun _ => And.intro (fun c => absurd c (by decide)) (fun _ => And.intro (fun _ => ?_) (fun c => absurd (by decide) c))))
    show w_X5_doMarch [aR 13 0, aI (mI S 13 0 12)] S _
    rw [hx (by decide)]
    obtain ⟨⟨m, mm, rfl⟩, -⟩ := q_marchE_ok he
    refine q_X5_doMarch hv mm (fun S3 f3 e3 => ?_)
    refine e_walk (stops := []) 20 (h _ S3 (q_fm.of14 f3) (hM.of14 f3 (e3.trans ?_)) (f3.1 13 0 (by decide)))
    show _ = q_march v _ np
    rw [hM.eqv, nI_clamp (by omega)]
  · refine e_walk (stops := [92]) 20 ?_
    refine And.intro (fun c => absurd c (by decide)) (fun _ => And.intro (fun c => absurd c (by decide)) (fun _ => And.intro (fun c => absurd c (by decide)) (fun _ => And.intro (fun c => absurd c (by decide)) (fun _ => And.intro (fun _ => ?_) (fun c => absurd (by decide) c)))))
    show w_X5_doMend [aR 13 0, aI (mI S 13 0 12)] S _
    rw [hx (by decide)]
    obtain ⟨i, ii, rfl, ww⟩ := q_mendE_ok h2 he
    refine q_X5_doMend (by omega) (fun S3 f3 e3 => ?_)
    refine e_walk (stops := []) 20 (h _ S3 (q_fm.of1 f3) (hM.of0 f3 (e3.trans ?_)) (f3.1 13 0 (by decide)))
    show _ = q_mend v _
    rw [hM.eqv, nI_clamp (by omega)]
  · refine e_walk (stops := [98]) 20 ?_
    refine And.intro (fun c => absurd c (by decide)) (fun _ => And.intro (fun c => absurd c (by decide)) (fun _ => And.intro (fun c => absurd c (by decide)) (fun _ => And.intro (fun c => absurd c (by decide)) (fun _ => And.intro (fun c => absurd c (by decide)) (fun _ => ?_)))))
    refine q_X5_doPass hv (fun S3 f3 e3 => ?_)
    refine e_walk (stops := []) 20 (h _ S3 (q_fm.of1 f3) (hM.of0 f3 (e3.trans ?_)) (f3.1 13 0 (by decide)))
    show _ = q_ps v 1 np
    rw [hM.eqv]
/-- the parts done from p on, up to the first one that can't be -/
def q_wk (f : Nat → Int32) (ln np ni : Nat) : Nat → Nat → qV → Nat → qV × Nat
  | 0, _, v, dn => (v, dn)
  | n + 1, p, v, dn => cond (decide (q_err v np ni (q_x f ln p) (q_y f ln p) (q_wd f ln p) = 0)) (cond (decide (q_end f ln p = ln)) (q_act v np (q_x f ln p) (q_y f ln p) (q_wd f ln p), dn + 1) (q_wk f ln np ni n (q_end f ln p + 1) (q_act v np (q_x f ln p) (q_y f ln p) (q_wd f ln p)) (dn + 1))) (v, dn)
theorem q_rd_fin {n p : Nat} (h : (q_rd f ln n p).1 = true) : q_fin f ln p = true := by
  cases n with
  | zero => exact absurd (show false = true from h) (by decide)
  | succ n =>
    rw [q_rd] at h
    cases hf : q_fin f ln p with
    | true => rfl
    | false => rw [hf] at h; exact absurd (show false = true from h) (by decide)
theorem q_fin_lt {p : Nat} (h : q_fin f ln p = true) : q_wd f ln p < 6 := by
  unfold q_fin at h
  rw [Bool.and_eq_true, decide_eq_true_eq] at h
  exact h.1
theorem q_rt1_15 {post : eQ} : ∀ n p v dn B nl, ln + 1 ≤ p + n → p ≤ ln → (q_rd f ln n p).1 = true → ∀ S1 : eM, q_M S1 v sv sn sp tk f ln → q_fm S S1 → q_inv B v np ni nl → mI S1 13 0 10 = nI (q_end f ln p) → mI S1 13 0 11 = nI (q_wd f ln p + 1) → (q_wd f ln p ≠ 5 → mI S1 13 0 12 = q_x f ln p) → (q_wd f ln p = 0 ∨ q_wd f ln p = 2 → mI S1 13 0 13 = q_y f ln p) → mI S1 13 0 14 = nI dn → mI S1 13 0 8 = mI S 13 0 8 → (∀ S2, q_fm S S2 → q_M S2 (q_wk f ln np ni n p v dn).1 sv sn sp tk f ln → mI S2 13 0 14 = nI (q_wk f ln np ni n p v dn).2 → mI S2 13 0 8 = mI S 13 0 8 → post (some (aI 1)) S2) → e_Run tb_X5_readText post e_no 15 [some (aR 13 0), some (aI 1), some (aI 1)] [] S1 0 0 := by
  intro n
  induction n with
  | zero => intro p v dn B nl h1 h2; omega
  | succ n ih =>
    intro p v dn B nl h1 h2 hr S1 hM g hi e10 e11 e12 e13 e14 e8 h
    have hf := q_rd_fin hr
    have hw6 := q_fin_lt hf
    rw [q_rd, hf, cond_true] at hr
    obtain ⟨b1, b2⟩ := q_end_le (f := f) h2
    have h60 := hM.1.2.2
    have hv : q_ok0 (mI S1 14 0) np ni := by rw [hM.eqv]; exact hi.ok0
    rw [q_wk] at h
    refine e_walk (stops := [27]) 40 ?_
    refine And.intro (fun c => absurd c (by decide)) (fun _ => And.intro (fun c => absurd c (by decide)) (fun _ => ?_))
    refine q_X5_errorOfPart (x := q_x f ln p) (y := q_y f ln p) hw6 hv e11 e12 e13 ?_
    rw [hM.eqv]
    have hlt := q_err_lt (v := v) (np := np) (ni := ni) (x := q_x f ln p) (y := q_y f ln p) (q_wd f ln p)
    by_cases z : q_err v np ni (q_x f ln p) (q_y f ln p) (q_wd f ln p) = 0
    · rw [decide_eq_true z, cond_true] at h
      rw [z]
      refine e_walk (stops := [36]) 40 ?_
      refine And.intro (fun _ => ?_) (fun c => absurd (show (nI 0) ≤ 0 by decide) c)
      refine q_X5_does (x := q_x f ln p) (y := q_y f ln p) hw6 hM hi e11 e12 e13 z (fun zz S2 g2 hM2 k2 => ?_)
      obtain ⟨nl2, hi2⟩ := q_act_inv hi _ z
      refine e_walk (stops := [47]) 40 ?_
      show e_Run tb_X5_readText post e_no 47 [some (aR 13 0), some (aI 1), some (aI 1)] [] (sI S2 13 0 14 (mI S2 13 0 14 + 1)) 0 0
      rw [show mI S2 13 0 14 = nI dn by rw [k2]; exact e14, nI_1]
      have gg : q_fp S2 (sI S2 13 0 14 (nI (dn + 1))) := q_fp.fld (by decide)
      have hM3 := hM2.fp gg
      have g3 := (g.trans g2).trans (q_fm.ofp gg)
      have d3 : mI (sI S2 13 0 14 (nI (dn + 1))) 13 0 14 = nI (dn + 1) := by rw [q_sI, if_pos rfl]
      have o3 : ∀ j, j ≠ 14 → mI (sI S2 13 0 14 (nI (dn + 1))) 13 0 j = mI S1 13 0 j := fun j hj => by rw [q_sI, if_neg hj, k2]
      generalize sI S2 13 0 14 (nI (dn + 1)) = S3 at *
      have e3 : mI S3 13 0 10 = nI (q_end f ln p) := (o3 10 (by decide)).trans e10
      have h73 := hM3.2.2.2.2.2.1
      refine e_walk (stops := [60]) 40 ?_
      refine And.intro (fun c => ?_) (fun c => ?_)
      · have c : mI S3 13 0 10 = mI S3 13 0 7 := c
        rw [e3, h73] at c
        have c := (nI_eq (by omega) (by omega)).mp c
        rw [decide_eq_true c, cond_true] at h
        exact h S3 g3 hM3 d3 ((o3 8 (by decide)).trans e8)
      · have c : ¬ mI S3 13 0 10 = mI S3 13 0 7 := c
        rw [e3, h73] at c
        have c : ¬ q_end f ln p = ln := fun z => c (by rw [z])
        rw [decide_eq_false c, cond_false] at h hr
        refine e_walk (stops := [66]) 40 ?_
        refine q_X5_takes hM3 e3 b1 (fun a b S4 g4 e4 o4 => ?_) (fun a S4 g4 e4 o4 => ?_)
        · rw [decide_eq_true a, decide_eq_true b, Bool.and_self, cond_true] at hr
          refine e_walk (stops := [73]) 40 ?_
          refine And.intro (fun c => absurd c (by decide)) (fun _ => ?_)
          have hf2 := q_rd_fin hr
          refine q_X5_readPart (hM3.fp g4) e4 a (fun S5 g5 y1 y2 y3 => ?_)
          obtain ⟨y4, y5, y6⟩ := y2 hf2
          have hh := ih (q_end f ln p + 1) _ (dn + 1) (B + 1) nl2 (by omega) a hr S5 ((hM3.fp g4).fp g5) ((g3.trans (q_fm.ofp g4)).trans (q_fm.ofp g5)) hi2 y1 y4 y5 y6 (y3.trans ((o4 14 (by decide)).trans d3)) ((g5.1 13 0 8 (by omega)).trans ((g4.1 13 0 8 (by omega)).trans ((o3 8 (by decide)).trans e8))) h
          rw [hf2]
          refine e_walk (stops := [15]) 40 ?_
          exact And.intro (fun c => absurd c (by decide)) (fun _ => hh)
        · rw [a] at hr
          exact absurd (show false = true from hr) (by decide)
    · rw [decide_eq_false z, cond_false] at h
      refine e_walk (stops := []) 40 ?_
      exact And.intro (fun c => absurd c (nI_nle (by omega) (by omega))) (fun _ => h S1 g hM e14 e8)
theorem q_X5_readText1 {post : eQ} (hM : q_M S v sv sn sp tk f ln) (hi : q_inv B v np ni nl) (hr : (q_rd f ln (ln + 1) 0).1 = true) (h : ∀ S2, q_fm S S2 → q_M S2 (q_wk f ln np ni (ln + 1) 0 v 0).1 sv sn sp tk f ln → mI S2 13 0 14 = nI (q_wk f ln np ni (ln + 1) 0 v 0).2 → mI S2 13 0 8 = mI S 13 0 8 → post (some (aI 1)) S2) : w_X5_readText [aR 13 0, aI 1] S post := by
  refine e_walk (stops := [10]) 20 ?_
  show e_Run tb_X5_readText post e_no 10 [some (aR 13 0), some (aI 1), none] [] (sI (sI S 13 0 10 0) 13 0 14 0) 0 0
  have g1 : q_fp S (sI (sI S 13 0 10 0) 13 0 14 0) := (q_fp.fld (by decide)).trans (q_fp.fld (by decide))
  have hp : mI (sI (sI S 13 0 10 0) 13 0 14 0) 13 0 10 = nI 0 := by rw [q_sI, if_neg (by decide), q_sI, if_pos rfl]; rfl
  have hd : mI (sI (sI S 13 0 10 0) 13 0 14 0) 13 0 14 = nI 0 := by rw [q_sI, if_pos rfl]; rfl
  generalize sI (sI S 13 0 10 0) 13 0 14 0 = S1 at *
  refine e_walk (stops := [14]) 20 ?_
  refine q_X5_readPart (hM.fp g1) hp (Nat.zero_le _) (fun S2 g2 y1 y2 y3 => ?_)
  have hf := q_rd_fin hr
  obtain ⟨y4, y5, y6⟩ := y2 hf
  rw [hf]
  refine e_walk (stops := [15]) 20 ?_
  exact q_rt1_15 (ln + 1) 0 v 0 B nl (by omega) (Nat.zero_le _) hr S2 ((hM.fp g1).fp g2) (q_fm.ofp (g1.trans g2)) hi y1 y4 y5 y6 (y3.trans hd) ((g2.1 13 0 8 (by omega)).trans (g1.1 13 0 8 (by omega))) h
theorem q_X5_work {post : eQ} (hM : q_M S v sv sn sp tk f ln) (hi : q_inv B v np ni nl) (h0 : (q_rd f ln (ln + 1) 0).1 = false → ∀ S2, q_fm S S2 → q_M S2 v sv sn sp tk f ln → mI S2 13 0 8 = 1 → post (some (aI 0)) S2) (h1 : (q_rd f ln (ln + 1) 0).1 = true → ∀ S2, q_fm S S2 → q_M S2 (q_wk f ln np ni (ln + 1) 0 v 0).1 (q_sv sv sn v) (min sn 5 + 1) sp tk f 0 → mI S2 13 0 8 = 0 → post (some (aI (nI (q_wk f ln np ni (ln + 1) 0 v 0).2))) S2) : w_X5_work [aR 13 0] S post := by
  refine e_walk (stops := [6]) 20 ?_
  refine q_X5_readText0 hM (fun S1 g1 _ => ?_)
  cases hr : (q_rd f ln (ln + 1) 0).1 with
  | false =>
    refine e_walk (stops := [17]) 20 ?_
    refine And.intro (fun _ => ?_) (fun c => absurd rfl c)
    refine q_M_holds (e := 1) (hM.fp g1) (by decide) (fun S2 g2 hM2 e2 => ?_)
    refine e_walk (stops := []) 20 ?_
    exact And.intro (fun _ => h0 hr S2 ((q_fm.ofp g1).trans g2) hM2 e2) (fun c => absurd rfl c)
  | true =>
    refine e_walk (stops := [17]) 20 ?_
    refine And.intro (fun c => absurd c (by decide)) (fun _ => ?_)
    refine q_M_holds (e := 0) (hM.fp g1) (by decide) (fun S2 g2 hM2 e2 => ?_)
    refine e_walk (stops := [26]) 20 ?_
    refine And.intro (fun c => absurd c (by decide)) (fun _ => ?_)
    refine q_M_save hM2 (fun S3 g3 e3 hM3 => ?_)
    refine e_walk (stops := [31]) 20 ?_
    refine q_X5_readText1 hM3 hi hr (fun S4 g4 hM4 d4 e4 => ?_)
    refine e_walk (stops := []) 20 ?_
    refine And.intro (fun c => absurd c (by decide)) (fun _ => ?_)
    show post (some (aI (mI (sI S4 13 0 7 0) 13 0 14))) (sI S4 13 0 7 0)
    rw [q_sI, if_neg (by decide), d4]
    obtain ⟨a, b, cc, d, e9, g, i⟩ := hM4
    refine h1 hr _ (((((q_fm.ofp g1).trans g2).trans g3).trans g4).trans q_fm.fld) ⟨⟨a.1, a.2.1, by decide⟩, ?_, cc, ?_, e9, ?_, fun j hj => absurd hj (by omega)⟩ ?_
    · rw [q_sI, if_neg (by decide)]; exact b
    · rw [q_sI, if_neg (by decide)]; exact d
    · rw [q_sI, if_pos rfl]; rfl
    · rw [q_sI, if_neg (by decide), e4, e3, e2]; rfl
end Works
section Bits
theorem fp_dec_nn {x : UInt64} (h : vf_n64 x) : (∃ s, FP.Core.decode FP.Core.b64 x.toNat = .inf s) ∨ ∃ s c q, FP.Core.decode FP.Core.b64 x.toNat = .fin s c q := by
  unfold vf_n64 at h
  rw [UInt64.le_iff_toNat_le, UInt64.toNat_and] at h
  have h : x.toNat &&& (2 ^ 63 - 1) ≤ 9218868437227405312 := h
  rw [Nat.and_two_pow_sub_one_eq_mod] at h
  unfold FP.Core.decode FP.Core.fieldE FP.Core.fieldT
  rw [fp_tails, fp_exps]
  by_cases z1 : x.toNat / 4503599627370496 % 2048 = 2048 - 1
  · rw [if_pos z1, if_pos (by omega)]
    exact Or.inl ⟨_, rfl⟩
  · rw [if_neg z1]
    split
    · exact Or.inr ⟨_, _, _, rfl⟩
    · exact Or.inr ⟨_, _, _, rfl⟩
theorem fp_mulbig {x : UInt64} (h : vf_n64 x) : vf_n64 (FP.dmul x 4841369599423283200) := by
  rcases fp_dec_nn h with ⟨s, e⟩ | ⟨s, c, q, e⟩
  · show vf_n64 (.ofNat (FP.Core.encode FP.Core.b64 (FP.Core.round FP.Core.b64 (FP.Core.exactProduct (FP.Core.decode FP.Core.b64 x.toNat) (FP.Core.decode FP.Core.b64 (4841369599423283200 : UInt64).toNat)))))
    rw [e, fp_big]
    exact fp_nn _ (Or.inl ⟨_, rfl⟩)
  · exact fp_mulnn e fp_big
def q_bf (p : Int64) (x : UInt64) : Int64 := p * 4503599627370496 + FP.d2l (FP.dmul (FP.dsub x 4607182418800017408) 4841369599423283200)
def q_bl : Nat → Int64 → UInt64 → Int64
  | 0, p, x => q_bf p x
  | n + 1, p, x => cond (decide (FP.dcmp x 4607182418800017408 = some .lt)) (q_bl n (p - 1) (FP.dmul x 4611686018427387904)) (q_bf p x)
def q_bits (x : UInt64) : Int64 := cond (decide (x = 0)) 0 (q_bl 1000 1023 x)
/-- a share: nothing, or a number of a written form -/
def q_isS (x : UInt64) : Prop := x = 0 ∨ ∃ m k, fp_ok m k ∧ -73 ≤ k ∧ k ≤ -31 ∧ x = fp_n m k
theorem q_shr_is {mm ss : Nat} (hm : 4 * mm < 2 ^ 20) : q_isS (q_shr mm ss) := by
  unfold q_shr
  by_cases h : mm = 0
  · rw [if_pos h]
    exact Or.inr ⟨4503599627370496, -52, ⟨by decide, by decide, by decide, by decide⟩, by decide, by decide, by decide +kernel⟩
  · rw [if_neg h]
    rcases (fp_share (a := 4 * mm - ss) (b := 4 * mm) (by omega) (by omega) hm).2 with ⟨-, e⟩ | ⟨m, k, h1, h2, h3, h4⟩
    · exact Or.inl e
    · exact Or.inr ⟨m, k, h1, h2, h3, h4⟩
theorem q_bend {S : eM} {post : eQ} {m : Nat} {k : Int} {p : Int64} {x0 : UInt64} (hk : fp_ok m k) (h : post (some (aL (q_bf p (fp_n m k)))) S) : e_Run tb_X5_bitsOf post e_no 37 [some (aD x0), none, some (aL p), none, some (aD (fp_n m k)), none] [] S 0 0 := by
  have h1 : vf_n64 (FP.dsub (fp_n m k) 4607182418800017408) := fp_subnn (fp_dec hk) fp_one
  refine e_walk (stops := []) 20 ?_
  exact And.intro h1 (And.intro (fp_mulbig h1) h)
theorem q_bloop {S : eM} {post : eQ} {m : Nat} {x0 : UInt64} : ∀ (n N : Nat) (k : Int) (p : Int64), fp_ok m k → -73 ≤ k → k ≤ -31 → -52 ≤ k + n → n ≤ N → post (some (aL (q_bl N p (fp_n m k)))) S → e_Run tb_X5_bitsOf post e_no 15 [some (aD x0), none, some (aL p), none, some (aD (fp_n m k)), none] [] S 0 0 := by
  have ge : ∀ (N : Nat) (k : Int) (p : Int64), fp_ok m k → -52 ≤ k → post (some (aL (q_bl N p (fp_n m k)))) S → e_Run tb_X5_bitsOf post e_no 15 [some (aD x0), none, some (aL p), none, some (aD (fp_n m k)), none] [] S 0 0 := by
    intro N k p hk h52 h
    have hb : q_bl N p (fp_n m k) = q_bf p (fp_n m k) := by
      cases N with
      | zero => rfl
      | succ N =>
        rw [q_bl, decide_eq_false, cond_false]
        rcases fp_ge1 hk h52 with z | z <;> rw [z] <;> decide
    rw [hb] at h
    refine e_walk (stops := [18]) 20 ?_
    refine e_walk (stops := [19]) 1 ?_
    show e_Run tb_X5_bitsOf post e_no 19 [some (aD x0), none, some (aL p), none, some (aD (fp_n m k)), none] [aI (Op.cmpValue (FP.dcmp (fp_n m k) 4607182418800017408) .g)] S 0 0
    rcases fp_ge1 hk h52 with z | z <;> rw [z]
    · refine e_walk (stops := [37]) 20 ?_
      exact And.intro (fun _ => q_bend hk h) (fun c => absurd (by decide) c)
    · refine e_walk (stops := [37]) 20 ?_
      exact And.intro (fun _ => q_bend hk h) (fun c => absurd (by decide) c)
  intro n
  induction n with
  | zero => intro N k p hk _ _ h52 _ h; exact ge N k p hk (by omega) h
  | succ n ih =>
    intro N k p hk h73 h31 h52 hN h
    by_cases z : -52 ≤ k
    · exact ge N k p hk z h
    · obtain ⟨N, rfl⟩ : ∃ M, N = M + 1 := ⟨N - 1, by omega⟩
      have hlt := fp_lt1 hk (show k < -52 by omega)
      have h2 := fp_mul2 hk (by omega)
      rw [q_bl, decide_eq_true hlt, cond_true, h2] at h
      have hk2 : fp_ok m (k + 1) := ⟨hk.1, hk.2.1, by omega, by omega⟩
      refine e_walk (stops := [19]) 20 ?_
      show e_Run tb_X5_bitsOf post e_no 19 [some (aD x0), none, some (aL p), none, some (aD (fp_n m k)), none] [aI (Op.cmpValue (FP.dcmp (fp_n m k) 4607182418800017408) .g)] S 0 0
      rw [hlt]
      refine e_walk (stops := [28]) 20 ?_
      refine And.intro (fun c => absurd c (by decide)) (fun _ => ?_)
      refine And.intro (fp_mulnn (fp_dec hk) fp_two) ?_
      show e_Run tb_X5_bitsOf post e_no 28 [some (aD x0), none, some (aL p), none, some (aD (fp_n m k)), none] [aD (FP.dmul (fp_n m k) 4611686018427387904)] S 0 0
      rw [h2]
      refine e_walk (stops := [15]) 20 ?_
      exact ih N (k + 1) (p - 1) hk2 (by omega) (by omega) (by omega) (by omega) h
theorem q_X5_bitsOf {S : eM} {post : eQ} {x : UInt64} (hx : q_isS x) (h : post (some (aL (q_bits x))) S) : w_X5_bitsOf [aD x] S post := by
  unfold q_bits at h
  rcases hx with rfl | ⟨m, k, hk, h1, h2, rfl⟩
  · rw [decide_eq_true rfl, cond_true] at h
    refine e_walk (stops := [3]) 20 ?_
    show e_Run tb_X5_bitsOf post e_no 3 _ [aI (Op.cmpValue (FP.dcmp 0 0) .l)] S 0 0
    rw [show Op.cmpValue (FP.dcmp 0 0) .l = 0 by decide +kernel]
    refine e_walk (stops := []) 20 ?_
    exact And.intro (fun _ => h) (fun c => absurd rfl c)
  · have h0 := fp_gt0 hk
    have hne : ¬ fp_n m k = 0 := fun z => by
      rw [z] at h0
      exact absurd h0 (by decide +kernel)
    rw [decide_eq_false hne, cond_false] at h
    refine e_walk (stops := [3]) 20 ?_
    show e_Run tb_X5_bitsOf post e_no 3 _ [aI (Op.cmpValue (FP.dcmp (fp_n m k) 0) .l)] S 0 0
    rw [h0]
    refine e_walk (stops := [15]) 20 ?_
    refine And.intro (fun c => absurd c (by decide)) (fun _ => ?_)
    exact q_bloop 21 1000 k 1023 hk h1 h2 (by omega) (by decide) h
end Bits
