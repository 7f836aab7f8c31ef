/-! What walks come to: the reference reads parts and its whole text. Own work. -/
section Parts
variable {S S2 : eM} {v v2 sp : qV} {sv : Nat → qV} {sn ln : Nat} {tk : Bool} {f : Nat → Int32}
def q_form (w : Nat) : List Int32 := e_sb.getD (4 + w) []
/-- the figures of a word -/
def q_ds : Nat → List Int32
  | 0 => [57, 57] | 1 => [57] | 2 => [57, 50] | 3 => [51] | 4 => [57] | _ => []
/-- how many letters a word has -/
def q_wl : Nat → Nat
  | 0 => 4 | 1 => 4 | 2 => 5 | 3 => 5 | 4 => 4 | 5 => 3 | _ => 0
def q_first : Nat → Int32
  | 0 => 108 | 1 => 98 | 2 => 116 | 3 => 109 | 4 => 109 | _ => 100
/-- the word that begins at p -/
def q_wd (f : Nat → Int32) (ln p : Nat) : Nat := cond (decide (p < ln)) (if f p = 108 then 0 else if f p = 98 then 1 else if f p = 116 then 2 else if f p = 100 then 5 else if f p = 109 then cond (decide (p + 1 < ln) && decide (f (p + 1) = 97)) 3 4 else 6) 6
def q_fin (f : Nat → Int32) (ln p : Nat) : Bool := decide (q_wd f ln p < 6) && decide (q_lm f ln (q_form (q_wd f ln p)) p = (q_form (q_wd f ln p)).length)
def q_end (f : Nat → Int32) (ln p : Nat) : Nat := p + q_lm f ln (q_form (q_wd f ln p)) p
def q_x (f : Nat → Int32) (ln p : Nat) : Int32 := f (p + q_wl (q_wd f ln p)) - 48
def q_y (f : Nat → Int32) (ln p : Nat) : Int32 := f (p + q_wl (q_wd f ln p) + 1) - 48
theorem q_form_eq {w : Nat} (h : w < 6) : q_form w = (q_first w :: q_rest w) ++ q_ds w ∧ (q_rest w).length + 1 = q_wl w := by
  rcases (show w = 0 ∨ w = 1 ∨ w = 2 ∨ w = 3 ∨ w = 4 ∨ w = 5 by omega) with rfl | rfl | rfl | rfl | rfl | rfl <;> exact ⟨rfl, rfl⟩
/-- what figures from q on come to -/
def q_hd (f : Nat → Int32) (ln : Nat) (S : eM) (q : Nat) (ds : List Int32) (post : eQ) : Prop := ∀ S2, q_fp S S2 → mI S2 13 0 10 = nI (q + q_lm f ln ds q) → mI S2 13 0 11 = mI S 13 0 11 → (q_lm f ln ds q = ds.length → (0 < ds.length → mI S2 13 0 12 = f q - 48) ∧ (1 < ds.length → mI S2 13 0 13 = f (q + 1) - 48)) → mI S2 13 0 14 = mI S 13 0 14 → post (some (aI (cond (decide (q_lm f ln ds q = ds.length)) 1 0))) S2
/-- one figure at the end -/
theorem q_one_d {post : eQ} {q n : Nat} (hM : q_M S v sv sn sp tk f ln) (hq : mI S 13 0 10 = nI q) (hql : q ≤ ln) (hn : n ≤ 9) (h : q_hd f ln S q [nI (48 + n)] post) : w_X5_readOne [aR 13 0, aI (nI n)] S post := by
  refine q_X5_readOne hM hq hql hn (fun a b S1 g e1 e2 e3 => ?_) (fun a S1 g e1 e3 => ?_)
  · have hl : q_lm f ln [nI (48 + n)] q = 1 := q_lm_hit a b
    have := h S1 g (by rw [hl]; exact e1) (e3 11 (by decide) (by decide)) (fun _ => ⟨fun _ => e2, fun z => absurd z (by show ¬ 1 < 1; decide)⟩) (e3 14 (by decide) (by decide))
    rw [hl] at this
    exact this
  · have hl : q_lm f ln [nI (48 + n)] q = 0 := q_lm_miss a
    have := h S1 g (by rw [hl]; exact e1) (e3 11 (by decide) (by decide)) (fun z => absurd (hl.symm.trans z) (by show ¬ 0 = 1; decide)) (e3 14 (by decide) (by decide))
    rw [hl] at this
    exact this
/-- two figures: the first one -/
theorem q_two_d {post K : eQ} {q n n2 : Nat} (hM : q_M S v sv sn sp tk f ln) (hq : mI S 13 0 10 = nI q) (hql : q ≤ ln) (hn : n ≤ 9) (hn2 : n2 ≤ 9) (h : q_hd f ln S q [nI (48 + n), nI (48 + n2)] post) (h0 : ∀ S2, post (some (aI 0)) S2 → K (some (aI 0)) S2) (h1 : ∀ S2, (∀ K2 : eQ, (∀ S3, post (some (aI 1)) S3 → K2 (some (aI 1)) S3) → (∀ S3, post (some (aI 0)) S3 → K2 (some (aI 0)) S3) → w_X5_readOther [aR 13 0, aI (nI n2)] S2 K2) → K (some (aI 1)) S2) : w_X5_readOne [aR 13 0, aI (nI n)] S K := by
  refine q_X5_readOne hM hq hql hn (fun a b S1 g e1 e2 e3 => ?_) (fun a S1 g e1 e3 => ?_)
  · refine h1 S1 (fun K2 k1 k0 => ?_)
    have hl : q_lm f ln [nI (48 + n), nI (48 + n2)] q = q_lm f ln [nI (48 + n2)] (q + 1) + 1 := q_lm_hit a b
    refine q_X5_readOther (hM.fp g) e1 a hn2 (fun a2 b2 S3 g3 y1 y2 y3 => ?_) (fun a2 S3 g3 y1 y3 => ?_)
    · have hl2 : q_lm f ln [nI (48 + n2)] (q + 1) = 1 := q_lm_hit a2 b2
      rw [hl2] at hl
      have := h S3 (g.trans g3) (by rw [hl]; exact y1) ((y3 11 (by decide) (by decide)).trans (e3 11 (by decide) (by decide))) (fun _ => ⟨fun _ => (y3 12 (by decide) (by decide)).trans e2, fun _ => y2⟩) ((y3 14 (by decide) (by decide)).trans (e3 14 (by decide) (by decide)))
      rw [hl] at this
      exact k1 S3 this
    · have hl2 : q_lm f ln [nI (48 + n2)] (q + 1) = 0 := q_lm_miss a2
      rw [hl2] at hl
      have := h S3 (g.trans g3) (by rw [hl]; exact y1) ((y3 11 (by decide) (by decide)).trans (e3 11 (by decide) (by decide))) (fun z => absurd (hl.symm.trans z) (by show ¬ 0 + 1 = 2; decide)) ((y3 14 (by decide) (by decide)).trans (e3 14 (by decide) (by decide)))
      rw [hl] at this
      exact k0 S3 this
  · have hl : q_lm f ln [nI (48 + n), nI (48 + n2)] q = 0 := q_lm_miss a
    have := h S1 g (by rw [hl]; exact e1) (e3 11 (by decide) (by decide)) (fun z => absurd (hl.symm.trans z) (by show ¬ 0 = 2; decide)) (e3 14 (by decide) (by decide))
    rw [hl] at this
    exact h0 S1 this
theorem q_rp_77 {post : eQ} {q w : Nat} {x : Int32} (hw6 : w < 6) (hM : q_M S v sv sn sp tk f ln) (hq : mI S 13 0 10 = nI q) (hql : q ≤ ln) (hw : mI S 13 0 11 = nI (w + 1)) (h : q_hd f ln S q (q_ds w) post) : e_Run tb_X5_readPart post e_no 77 [some (aR 13 0), some (aI x)] [] S 0 0 := by
  refine e_walk (stops := [81]) 20 ?_
  show e_Run tb_X5_readPart post e_no 81 [some (aR 13 0), some (aI x)] [aI (mI S 13 0 11)] S 0 0
  rw [hw]
  rcases (show w = 0 ∨ w = 1 ∨ w = 2 ∨ w = 3 ∨ w = 4 ∨ w = 5 by omega) with rfl | rfl | rfl | rfl | rfl | rfl
  · refine e_walk (stops := [126]) 20 ?_
    refine And.intro (fun _ => ?_) (fun c => absurd (by decide) c)
    refine q_two_d (n := 9) (n2 := 9) hM hq hql (by decide) (by decide) h (fun S2 y => ?_) (fun S2 y => ?_)
    · refine e_walk (stops := []) 20 ?_
      exact And.intro (fun _ => y) (fun c => absurd rfl c)
    · refine e_walk (stops := [135]) 20 ?_
      refine And.intro (fun c => absurd c (by decide)) (fun _ => ?_)
      refine y _ (fun S3 z => ?_) (fun S3 z => ?_)
      · refine e_walk (stops := []) 20 ?_
        exact And.intro (fun c => absurd c (by decide)) (fun _ => z)
      · refine e_walk (stops := []) 20 ?_
        exact And.intro (fun _ => z) (fun c => absurd rfl c)
  · refine e_walk (stops := [181]) 20 ?_
    refine And.intro (fun c => absurd c (by decide)) (fun _ => And.intro (fun _ => ?_) (fun c => absurd (by decide) c))
    refine q_one_d (n := 9) hM hq hql (by decide) (fun S2 a b c d e => ?_)
    have y := h S2 a b c d e
    refine e_walk (stops := []) 20 ?_
    cases hz : decide (q_lm f ln [nI (48 + 9)] q = [nI (48 + 9)].length) with
    | true => rw [show decide (q_lm f ln (q_ds 1) q = (q_ds 1).length) = true from hz] at y; exact y
    | false => rw [show decide (q_lm f ln (q_ds 1) q = (q_ds 1).length) = false from hz] at y; exact y
  · refine e_walk (stops := [150]) 20 ?_
    refine And.intro (fun c => absurd c (by decide)) (fun _ => And.intro (fun c => absurd c (by decide)) (fun _ => And.intro (fun _ => ?_) (fun c => absurd (by decide) c)))
    refine q_two_d (n := 9) (n2 := 2) hM hq hql (by decide) (by decide) h (fun S2 y => ?_) (fun S2 y => ?_)
    · refine e_walk (stops := []) 20 ?_
      exact And.intro (fun _ => y) (fun c => absurd rfl c)
    · refine e_walk (stops := [158]) 20 ?_
      refine And.intro (fun c => absurd c (by decide)) (fun _ => ?_)
      refine y _ (fun S3 z => ?_) (fun S3 z => ?_)
      · refine e_walk (stops := []) 20 ?_
        exact And.intro (fun c => absurd c (by decide)) (fun _ => z)
      · refine e_walk (stops := []) 20 ?_
        exact And.intro (fun _ => z) (fun c => absurd rfl c)
  · refine e_walk (stops := [172]) 20 ?_
    refine And.intro (fun c => absurd c (by decide)) (fun _ => And.intro (fun c => absurd c (by decide)) (fun _ => And.intro (fun c => absurd c (by decide)) (fun _ => And.intro (fun _ => ?_) (fun c => absurd (by decide) c))))
    refine q_one_d (n := 3) hM hq hql (by decide) (fun S2 a b c d e => ?_)
    have y := h S2 a b c d e
    refine e_walk (stops := []) 20 ?_
    cases hz : decide (q_lm f ln [nI (48 + 3)] q = [nI (48 + 3)].length) with
    | true => rw [show decide (q_lm f ln (q_ds 3) q = (q_ds 3).length) = true from hz] at y; exact y
    | false => rw [show decide (q_lm f ln (q_ds 3) q = (q_ds 3).length) = false from hz] at y; exact y
  · refine e_walk (stops := [181]) 20 ?_
    refine And.intro (fun c => absurd c (by decide)) (fun _ => And.intro (fun c => absurd c (by decide)) (fun _ => And.intro (fun c => absurd c (by decide)) (fun _ => And.intro (fun c => absurd c (by decide)) (fun _ => And.intro (fun _ => ?_) (fun c => absurd (by decide) c)))))
    refine q_one_d (n := 9) hM hq hql (by decide) (fun S2 a b c d e => ?_)
    have y := h S2 a b c d e
    refine e_walk (stops := []) 20 ?_
    cases hz : decide (q_lm f ln [nI (48 + 9)] q = [nI (48 + 9)].length) with
    | true => rw [show decide (q_lm f ln (q_ds 4) q = (q_ds 4).length) = true from hz] at y; exact y
    | false => rw [show decide (q_lm f ln (q_ds 4) q = (q_ds 4).length) = false from hz] at y; exact y
  · refine e_walk (stops := []) 20 ?_
    refine And.intro (fun c => absurd c (by decide)) (fun _ => And.intro (fun c => absurd c (by decide)) (fun _ => And.intro (fun c => absurd c (by decide)) (fun _ => And.intro (fun c => absurd c (by decide)) (fun _ => And.intro (fun c => absurd c (by decide)) (fun _ => And.intro (fun _ => ?_) (fun c => absurd (by decide) c))))))
    exact h S q_fp.rf hq rfl (fun _ => ⟨fun z => absurd z (by decide), fun z => absurd z (by decide)⟩) rfl
/-- what a part from p on comes to -/
def q_hpt (f : Nat → Int32) (ln : Nat) (S : eM) (p : Nat) (post : eQ) : Prop := ∀ S2, q_fp S S2 → mI S2 13 0 10 = nI (q_end f ln p) → (q_fin f ln p = true → mI S2 13 0 11 = nI (q_wd f ln p + 1) ∧ (q_wd f ln p ≠ 5 → mI S2 13 0 12 = q_x f ln p) ∧ (q_wd f ln p = 0 ∨ q_wd f ln p = 2 → mI S2 13 0 13 = q_y f ln p)) → mI S2 13 0 14 = mI S 13 0 14 → post (some (aI (cond (q_fin f ln p) 1 0))) S2
theorem q_rp_57 {post : eQ} {p w : Nat} {x : Int32} (hM : q_M S v sv sn sp tk f ln) (hp : mI S 13 0 10 = nI p) (hpl : p < ln) (hw : q_wd f ln p = w) (hw6 : w < 6) (hx : f p = x) (hf : x = q_first w) (hx2 : (x = 108 ∧ w = 0) ∨ (x = 98 ∧ w = 1) ∨ (x = 116 ∧ w = 2) ∨ (x = 100 ∧ w = 5) ∨ (x = 109 ∧ w = cond (decide (p + 1 < ln) && decide (f (p + 1) = 97)) 3 4)) (h : q_hpt f ln S p post) : e_Run tb_X5_readPart post e_no 57 [some (aR 13 0), some (aI x)] [] S 0 0 := by
  have h60 := hM.1.2.2
  obtain ⟨he, hl⟩ := q_form_eq hw6
  refine e_walk (stops := [67]) 20 ?_
  show e_Run tb_X5_readPart post e_no 67 [some (aR 13 0), some (aI x)] [] (sI S 13 0 10 (mI S 13 0 10 + 1)) 0 0
  rw [hp, nI_1]
  have g1 : q_fp S (sI S 13 0 10 (nI (p + 1))) := q_fp.fld (by decide)
  have hM1 := hM.fp g1
  have hp1 : mI (sI S 13 0 10 (nI (p + 1))) 13 0 10 = nI (p + 1) := by rw [q_sI, if_pos rfl]
  have e1 : ∀ j, 10 < j → mI (sI S 13 0 10 (nI (p + 1))) 13 0 j = mI S 13 0 j := fun j hj => by rw [q_sI, if_neg (by omega)]
  generalize sI S 13 0 10 (nI (p + 1)) = S1 at *
  have hhit : q_fit (f p) (q_first w) = true := by
    rw [q_fit_l, hx, hf, decide_eq_true rfl]
    rcases (show w = 0 ∨ w = 1 ∨ w = 2 ∨ w = 3 ∨ w = 4 ∨ w = 5 by omega) with rfl | rfl | rfl | rfl | rfl | rfl <;> decide
  have hlm : q_lm f ln (q_form w) p = cond (decide (q_lm f ln (q_rest w) (p + 1) = (q_rest w).length)) (q_wl w + q_lm f ln (q_ds w) (p + q_wl w)) (q_lm f ln (q_rest w) (p + 1) + 1) := by
    rw [he]
    show q_lm f ln (q_first w :: (q_rest w ++ q_ds w)) p = _
    rw [q_lm_hit hpl hhit, q_lm_app]
    cases hz : decide (q_lm f ln (q_rest w) (p + 1) = (q_rest w).length) with
    | true =>
      show (q_rest w).length + q_lm f ln (q_ds w) (p + 1 + (q_rest w).length) + 1 = q_wl w + q_lm f ln (q_ds w) (p + q_wl w)
      rw [show p + 1 + (q_rest w).length = p + q_wl w by omega]
      omega
    | false => rfl
  have hlen : (q_form w).length = q_wl w + (q_ds w).length := by
    rw [he, List.length_append, List.length_cons]
    omega
  refine e_walk (stops := [72]) 20 ?_
  refine q_X5_readWord hM1 hp1 hpl hx2 (fun S2 g2 e2 e3 e4 => ?_)
  have hle := q_lm_ln f ln (q_rest w) (p + 1) hpl
  cases hz : decide (q_lm f ln (q_rest w) (p + 1) = (q_rest w).length) with
  | false =>
    rw [hz, cond_false] at hlm
    have hfin : q_fin f ln p = false := by
      unfold q_fin
      rw [hw, decide_eq_true hw6, Bool.true_and, hlm, hlen]
      have := q_lm_le f ln (q_rest w) (p + 1)
      have := of_decide_eq_false hz
      exact decide_eq_false (by omega)
    refine e_walk (stops := []) 20 ?_
    refine And.intro (fun _ => ?_) (fun c => absurd rfl c)
    have := h S2 (g1.trans g2) (by unfold q_end; rw [hw, hlm, e2]; congr 1; omega) (fun z => by rw [hfin] at z; cases z) ((e4 14 (by decide)).trans (e1 14 (by decide)))
    rw [hfin] at this
    exact this
  | true =>
    rw [hz, cond_true] at hlm
    have hz2 := of_decide_eq_true hz
    rw [hz2] at e2 hle
    refine e_walk (stops := [77]) 20 ?_
    refine And.intro (fun c => absurd c (by decide)) (fun _ => ?_)
    have hdec : decide (q_lm f ln (q_form w) p = (q_form w).length) = decide (q_lm f ln (q_ds w) (p + q_wl w) = (q_ds w).length) := by
      refine decide_eq_decide.mpr ?_
      rw [hlm, hlen]
      omega
    have hfin : q_fin f ln p = decide (q_lm f ln (q_ds w) (p + q_wl w) = (q_ds w).length) := by
      unfold q_fin
      rw [hw, decide_eq_true hw6, Bool.true_and, hdec]
    refine q_rp_77 (q := p + q_wl w) hw6 (hM1.fp g2) (by rw [e2]; congr 1; omega) (by omega) e3 (fun S3 g3 y1 y2 y3 y4 => ?_)
    have := h S3 ((g1.trans g2).trans g3) (by unfold q_end; rw [hw, hlm, y1]; congr 1; omega) (fun z => ?_) (y4.trans ((e4 14 (by decide)).trans (e1 14 (by decide))))
    · rw [hfin] at this
      exact this
    · rw [hfin] at z
      obtain ⟨y5, y6⟩ := y3 (of_decide_eq_true z)
      rw [hw]
      refine ⟨y2.trans e3, fun n5 => ?_, fun n02 => ?_⟩
      · unfold q_x
        rw [hw]
        refine y5 ?_
        rcases (show w = 0 ∨ w = 1 ∨ w = 2 ∨ w = 3 ∨ w = 4 by omega) with rfl | rfl | rfl | rfl | rfl <;> decide
      · unfold q_y
        rw [hw]
        refine y6 ?_
        rcases n02 with rfl | rfl <;> decide
theorem q_X5_readPart {post : eQ} {p : Nat} (hM : q_M S v sv sn sp tk f ln) (hp : mI S 13 0 10 = nI p) (hpl : p ≤ ln) (h : q_hpt f ln S p post) : w_X5_readPart [aR 13 0] S post := by
  have h60 := hM.1.2.2
  have h7 := hM.2.2.2.2.2.1
  have none6 : q_wd f ln p = 6 → post (some (aI 0)) S := fun z => by
    have hfin : q_fin f ln p = false := by unfold q_fin; rw [z]; rfl
    have := h S q_fp.rf (by unfold q_end; rw [z]; exact hp) (fun y => by rw [hfin] at y; cases y) rfl
    rw [hfin] at this
    exact this
  refine e_walk (stops := [24]) 20 ?_
  refine And.intro (fun c => ?_) (fun c => ?_)
  · have c : mI S 13 0 7 ≤ mI S 13 0 10 := c
    rw [h7, hp] at c
    have hn : ¬ p < ln := Nat.not_lt.mpr ((nI_leI (by omega) (by omega)).mp c)
    have hw : q_wd f ln p = 6 := by unfold q_wd; rw [decide_eq_false hn]; rfl
    refine e_walk (stops := []) 40 ?_
    exact And.intro (fun c => absurd c (by decide)) (fun _ => And.intro (fun c => absurd c (by decide)) (fun _ => And.intro (fun c => absurd c (by decide)) (fun _ => And.intro (fun c => absurd c (by decide)) (fun _ => And.intro (fun c => absurd c (by decide)) (fun _ => none6 hw)))))
  · have c : ¬ mI S 13 0 7 ≤ mI S 13 0 10 := c
    rw [h7, hp] at c
    have hn : p < ln := Nat.not_le.mp (fun z => c (nI_le z (by omega)))
    refine And.intro (q_in (n := p) hp (show p < 60 by omega) (by decide)) ?_
    show e_Run tb_X5_readPart post e_no 24 [some (aR 13 0), none] [aI (mI S 14 4 (mI S 13 0 10).toNatClampNeg)] S 0 0
    rw [hp, nI_clamp (by omega), hM.2.2.2.2.2.2 p hn]
    have hwd : q_wd f ln p = (if f p = 108 then 0 else if f p = 98 then 1 else if f p = 116 then 2 else if f p = 100 then 5 else if f p = 109 then cond (decide (p + 1 < ln) && decide (f (p + 1) = 97)) 3 4 else 6) := by unfold q_wd; rw [decide_eq_true hn]; rfl
    refine e_walk (stops := [57]) 40 ?_
    refine And.intro (fun c => ?_) (fun c1 => ?_)
    · have c : f p = 108 := c
      rw [if_pos c] at hwd
      exact q_rp_57 hM hp hn hwd (by decide) rfl c (Or.inl ⟨c, rfl⟩) h
    have c1 : ¬ f p = 108 := c1
    rw [if_neg c1] at hwd
    refine And.intro (fun c => ?_) (fun c2 => ?_)
    · have c : f p = 98 := c
      rw [if_pos c] at hwd
      exact q_rp_57 hM hp hn hwd (by decide) rfl c (Or.inr (Or.inl ⟨c, rfl⟩)) h
    have c2 : ¬ f p = 98 := c2
    rw [if_neg c2] at hwd
    refine And.intro (fun c => ?_) (fun c3 => ?_)
    · have c : f p = 116 := c
      rw [if_pos c] at hwd
      exact q_rp_57 hM hp hn hwd (by decide) rfl c (Or.inr (Or.inr (Or.inl ⟨c, rfl⟩))) h
    have c3 : ¬ f p = 116 := c3
    rw [if_neg c3] at hwd
    refine And.intro (fun c => ?_) (fun c4 => ?_)
    · have c : f p = 100 := c
      rw [if_pos c] at hwd
      exact q_rp_57 hM hp hn hwd (by decide) rfl c (Or.inr (Or.inr (Or.inr (Or.inl ⟨c, rfl⟩)))) h
    have c4 : ¬ f p = 100 := c4
    rw [if_neg c4] at hwd
    refine And.intro (fun c => ?_) (fun c5 => ?_)
    · have c : f p = 109 := c
      rw [if_pos c] at hwd
      refine q_rp_57 hM hp hn hwd ?_ rfl ?_ (Or.inr (Or.inr (Or.inr (Or.inr ⟨c, rfl⟩)))) h
      · cases (decide (p + 1 < ln) && decide (f (p + 1) = 97)) <;> decide
      · rw [c]
        cases (decide (p + 1 < ln) && decide (f (p + 1) = 97)) <;> rfl
    have c5 : ¬ f p = 109 := c5
    rw [if_neg c5] at hwd
    exact none6 hwd
theorem q_end_le {p : Nat} (h : p ≤ ln) : q_end f ln p ≤ ln ∧ p ≤ q_end f ln p := ⟨q_lm_ln f ln _ p h, Nat.le_add_right _ _⟩
/-- the text read from p on: whether it is complete, and how far it goes -/
def q_rd (f : Nat → Int32) (ln : Nat) : Nat → Nat → Bool × Nat
  | 0, p => (false, p)
  | n + 1, p => cond (q_fin f ln p) (cond (decide (q_end f ln p = ln)) (true, ln) (cond (decide (q_end f ln p < ln) && decide (f (q_end f ln p) = 59)) (q_rd f ln n (q_end f ln p + 1)) (false, q_end f ln p))) (false, q_end f ln p)
theorem q_rt_15 {post : eQ} : ∀ n p, ln + 1 ≤ p + n → p ≤ ln → ∀ S1 : eM, q_M S1 v sv sn sp tk f ln → q_fp S S1 → mI S1 13 0 10 = nI (q_end f ln p) → (∀ S2, q_fp S S2 → mI S2 13 0 10 = nI (q_rd f ln n p).2 → post (some (aI (cond (q_rd f ln n p).1 1 0))) S2) → e_Run tb_X5_readText post e_no 15 [some (aR 13 0), some (aI 0), some (aI (cond (q_fin f ln p) 1 0))] [] S1 0 0 := by
  intro n
  induction n with
  | zero => intro p h1 h2; omega
  | succ n ih =>
    intro p h1 h2 S1 hM g e h
    rw [q_rd] at h
    cases hf : q_fin f ln p with
    | false =>
      rw [hf] at h
      refine e_walk (stops := []) 20 ?_
      exact And.intro (fun _ => h S1 g e) (fun c => absurd rfl c)
    | true =>
      rw [hf, cond_true] at h
      obtain ⟨b1, b2⟩ := q_end_le (f := f) h2
      have h60 := hM.1.2.2
      have h7 := hM.2.2.2.2.2.1
      refine e_walk (stops := [47]) 40 ?_
      refine And.intro (fun c => absurd c (by decide)) (fun _ => And.intro (fun _ => ?_) (fun c => absurd rfl c))
      show e_Run tb_X5_readText post e_no 47 [some (aR 13 0), some (aI 0), some (aI 1)] [] (sI S1 13 0 14 (mI S1 13 0 14 + 1)) 0 0
      have gg : q_fp S1 (sI S1 13 0 14 (mI S1 13 0 14 + 1)) := q_fp.fld (by decide)
      have hM2 := hM.fp gg
      have g2 := g.trans gg
      have e2 : mI (sI S1 13 0 14 (mI S1 13 0 14 + 1)) 13 0 10 = nI (q_end f ln p) := by rw [q_sI, if_neg (by decide)]; exact e
      generalize sI S1 13 0 14 (mI S1 13 0 14 + 1) = S2 at *
      have h72 := hM2.2.2.2.2.2.1
      refine e_walk (stops := [60]) 40 ?_
      refine And.intro (fun c => ?_) (fun c => ?_)
      · have c : mI S2 13 0 10 = mI S2 13 0 7 := c
        rw [e2, h72] at c
        have c := (nI_eq (by omega) (by omega)).mp c
        rw [decide_eq_true c, cond_true] at h
        exact h S2 g2 (by rw [e2, c])
      · have c : ¬ mI S2 13 0 10 = mI S2 13 0 7 := c
        rw [e2, h72] at c
        have c : ¬ q_end f ln p = ln := fun z => c (by rw [z])
        rw [decide_eq_false c, cond_false] at h
        refine e_walk (stops := [66]) 40 ?_
        refine q_X5_takes hM2 e2 b1 (fun a b S3 g3 e3 e4 => ?_) (fun a S3 g3 e3 e4 => ?_)
        · rw [decide_eq_true a, decide_eq_true b, Bool.and_self, cond_true] at h
          refine e_walk (stops := [73]) 40 ?_
          refine And.intro (fun c => absurd c (by decide)) (fun _ => ?_)
          refine q_X5_readPart (hM2.fp g3) e3 a (fun S4 g4 y1 y2 y3 => ?_)
          have hh := ih (q_end f ln p + 1) (by omega) a S4 ((hM2.fp g3).fp g4) ((g2.trans g3).trans g4) y1 h
          cases hf2 : q_fin f ln (q_end f ln p + 1) with
          | true =>
            rw [hf2] at hh
            refine e_walk (stops := [15]) 40 ?_
            exact And.intro (fun c => absurd c (by decide)) (fun _ => hh)
          | false =>
            rw [hf2] at hh
            refine e_walk (stops := [15]) 40 ?_
            exact And.intro (fun _ => hh) (fun c => absurd rfl c)
        · rw [a, cond_false] at h
          refine e_walk (stops := []) 40 ?_
          exact And.intro (fun _ => And.intro (fun _ => h S3 (g2.trans g3) e3) (fun c => absurd rfl c)) (fun c => absurd rfl c)
theorem q_X5_readText0 {post : eQ} (hM : q_M S v sv sn sp tk f ln) (h : ∀ S2, q_fp S S2 → mI S2 13 0 10 = nI (q_rd f ln (ln + 1) 0).2 → post (some (aI (cond (q_rd f ln (ln + 1) 0).1 1 0))) S2) : w_X5_readText [aR 13 0, aI 0] S post := by
  refine e_walk (stops := [10]) 20 ?_
  show e_Run tb_X5_readText post e_no 10 [some (aR 13 0), some (aI 0), none] [] (sI (sI S 13 0 10 0) 13 0 14 0) 0 0
  have g1 : q_fp S (sI (sI S 13 0 10 0) 13 0 14 0) := (q_fp.fld (by decide)).trans (q_fp.fld (by decide))
  have hp : mI (sI (sI S 13 0 10 0) 13 0 14 0) 13 0 10 = nI 0 := by rw [q_sI, if_neg (by decide), q_sI, if_pos rfl]; rfl
  generalize sI (sI S 13 0 10 0) 13 0 14 0 = S1 at *
  refine e_walk (stops := [14]) 20 ?_
  refine q_X5_readPart (hM.fp g1) hp (Nat.zero_le _) (fun S2 g2 y1 y2 y3 => ?_)
  refine e_walk (stops := [15]) 20 ?_
  exact q_rt_15 (ln + 1) 0 (by omega) (Nat.zero_le _) S2 ((hM.fp g1).fp g2) (g1.trans g2) y1 h
/-- where the first wrong sign is -/
def q_fe (f : Nat → Int32) (ln : Nat) : Nat := cond (q_rd f ln (ln + 1) 0).1 ln (q_rd f ln (ln + 1) 0).2
theorem q_X5_firstError {post : eQ} (hM : q_M S v sv sn sp tk f ln) (h : ∀ S2, q_fm S S2 → q_M S2 v sv sn sp tk f ln → mI S2 13 0 8 = 0 → post (some (aI (nI (q_fe f ln)))) S2) : w_X5_firstError [aR 13 0] S post := by
  unfold q_fe at h
  refine e_walk (stops := [5]) 20 ?_
  show e_Run tb_X5_firstError post e_no 5 [some (aR 13 0)] [] (sI S 13 0 8 0) 0 0
  have f1 : q_fm S (sI S 13 0 8 0) := q_fm.fld
  have m1 : q_M (sI S 13 0 8 0) v sv sn sp tk f ln := hM.fld (by decide) (by decide) (by decide)
  have t1 : mI (sI S 13 0 8 0) 13 0 8 = 0 := by rw [q_sI, if_pos rfl]
  generalize sI S 13 0 8 0 = S1 at *
  refine e_walk (stops := [10]) 20 ?_
  refine q_X5_readText0 m1 (fun S2 g2 e2 => ?_)
  have t2 : mI S2 13 0 8 = 0 := (g2.1 13 0 8 (by omega)).trans t1
  have h7 := (m1.fp g2).2.2.2.2.2.1
  have h := h S2 (f1.trans (q_fm.ofp g2)) (m1.fp g2) t2
  cases hr : (q_rd f ln (ln + 1) 0).1 with
  | true =>
    rw [hr] at h
    refine e_walk (stops := [24]) 20 ?_
    refine And.intro (fun c => absurd c (by decide)) (fun _ => ?_)
    show e_Run tb_X5_firstError post e_no 24 [some (aR 13 0)] [aI (mI S2 13 0 7)] S2 0 0
    rw [h7]
    exact e_walk (stops := []) 20 h
  | false =>
    rw [hr] at h
    refine e_walk (stops := [24]) 20 ?_
    refine And.intro (fun _ => ?_) (fun c => absurd rfl c)
    show e_Run tb_X5_firstError post e_no 24 [some (aR 13 0)] [aI (mI S2 13 0 10)] S2 0 0
    rw [e2]
    exact e_walk (stops := []) 20 h
end Parts
