/-! What walks come to: the reference reads its text. Own work. -/
/-- a sign fits a wanted one; a figure stands for all up to it -/
def q_fit (x c : Int32) : Bool := cond (decide (48 ≤ c) && decide (c ≤ 57)) (decide (¬ x < 48) && decide (¬ c < x)) (decide (x = c))
/-- how many signs from p on fit a form -/
def q_lm (f : Nat → Int32) (ln : Nat) : List Int32 → Nat → Nat
  | [], _ => 0
  | c :: cs, p => cond (decide (p < ln) && q_fit (f p) c) (q_lm f ln cs (p + 1) + 1) 0
theorem q_lm_le (f : Nat → Int32) (ln : Nat) : ∀ cs p, q_lm f ln cs p ≤ cs.length
  | [], _ => Nat.le_refl _
  | c :: cs, p => by
    rw [q_lm]
    cases (decide (p < ln) && q_fit (f p) c) with
    | true => exact Nat.succ_le_succ (q_lm_le f ln cs (p + 1))
    | false => exact Nat.zero_le _
theorem q_lm_ln (f : Nat → Int32) (ln : Nat) : ∀ cs p, p ≤ ln → p + q_lm f ln cs p ≤ ln
  | [], p, h => h
  | c :: cs, p, h => by
    rw [q_lm]
    cases hc : (decide (p < ln) && q_fit (f p) c) with
    | true =>
      rw [Bool.and_eq_true, decide_eq_true_eq] at hc
      have := q_lm_ln f ln cs (p + 1) hc.1
      show p + (q_lm f ln cs (p + 1) + 1) ≤ ln
      omega
    | false => exact h
theorem q_lm_hit {f : Nat → Int32} {ln p : Nat} {c : Int32} {cs : List Int32} (h1 : p < ln) (h2 : q_fit (f p) c = true) : q_lm f ln (c :: cs) p = q_lm f ln cs (p + 1) + 1 := by
  rw [q_lm, decide_eq_true h1, h2]; rfl
theorem q_lm_miss {f : Nat → Int32} {ln p : Nat} {c : Int32} {cs : List Int32} (h : (decide (p < ln) && q_fit (f p) c) = false) : q_lm f ln (c :: cs) p = 0 := by
  rw [q_lm, h]; rfl
theorem q_lm_app (f : Nat → Int32) (ln : Nat) (b : List Int32) : ∀ a p, q_lm f ln (a ++ b) p = cond (decide (q_lm f ln a p = a.length)) (a.length + q_lm f ln b (p + a.length)) (q_lm f ln a p)
  | [], p => by
    show q_lm f ln b p = cond (decide (0 = 0)) (0 + q_lm f ln b (p + 0)) 0
    rw [Nat.zero_add]; rfl
  | c :: a, p => by
    show q_lm f ln (c :: (a ++ b)) p = cond (decide (q_lm f ln (c :: a) p = a.length + 1)) (a.length + 1 + q_lm f ln b (p + (a.length + 1))) (q_lm f ln (c :: a) p)
    cases hc : (decide (p < ln) && q_fit (f p) c) with
    | true =>
      rw [Bool.and_eq_true, decide_eq_true_eq] at hc
      rw [q_lm_hit hc.1 hc.2, q_lm_hit hc.1 hc.2, q_lm_app f ln b a (p + 1)]
      by_cases hq : q_lm f ln a (p + 1) = a.length
      · rw [decide_eq_true hq, hq, decide_eq_true rfl]
        show a.length + q_lm f ln b (p + 1 + a.length) + 1 = a.length + 1 + q_lm f ln b (p + (a.length + 1))
        rw [show p + 1 + a.length = p + (a.length + 1) by omega]
        omega
      · rw [decide_eq_false hq, decide_eq_false (by omega)]; rfl
    | false =>
      rw [q_lm_miss hc, q_lm_miss hc, decide_eq_false (by omega)]; rfl
theorem q_fit_l {x c : Int32} (h : (decide (48 ≤ c) && decide (c ≤ 57)) = false) : q_fit x c = decide (x = c) := by unfold q_fit; rw [h]; rfl
theorem q_fit_d {x c : Int32} (h : (decide (48 ≤ c) && decide (c ≤ 57)) = true) : q_fit x c = (decide (¬ x < 48) && decide (¬ c < x)) := by unfold q_fit; rw [h]; rfl
theorem q_rg_eq {x c : Int32} : (decide (¬ x < c) && decide (¬ c < x)) = decide (x = c) := by
  by_cases h : x = c
  · subst h
    rw [decide_eq_true (show ¬ x < x from Int32.lt_irrefl), decide_eq_true rfl]; rfl
  · rw [decide_eq_false h]
    by_cases h1 : x < c
    · rw [decide_eq_false (fun z => z h1)]; rfl
    · have h2 : c < x := Int32.lt_of_le_of_ne (Int32.not_lt.mp h1) (fun z => h z.symm)
      rw [decide_eq_false (show ¬ ¬ c < x from fun z => z h2), Bool.and_false]
/-- of the reference's fields those of its reading may change -/
def q_fp (S S2 : eM) : Prop := (∀ k i j, ¬ (k = 13 ∧ i = 0 ∧ 10 ≤ j ∧ j < 15) → mI S2 k i j = mI S k i j) ∧ mR S2 = mR S ∧ mL S2 = mL S
theorem q_fp.rf {S : eM} : q_fp S S := ⟨fun _ _ _ _ => rfl, rfl, rfl⟩
theorem q_fp.trans {S S1 S2 : eM} (h : q_fp S S1) (k : q_fp S1 S2) : q_fp S S2 := ⟨fun a b c hc => (k.1 a b c hc).trans (h.1 a b c hc), k.2.1.trans h.2.1, k.2.2.trans h.2.2⟩
theorem q_fp.fld {S : eM} {j : Nat} {x : Int32} (h : 10 ≤ j ∧ j < 15) : q_fp S (sI S 13 0 j x) := ⟨fun a b c hc => by
  show (if a = 13 ∧ b = 0 ∧ c = j then x else mI S a b c) = mI S a b c
  rw [if_neg]
  rintro ⟨rfl, rfl, rfl⟩
  exact hc ⟨rfl, rfl, h⟩, rfl, rfl⟩
theorem q_fm.ofp {S S2 : eM} (h : q_fp S S2) : q_fm S S2 := ⟨fun k i h1 h2 => funext fun j => h.1 k i j (fun z => h1 z.1), h.2.1, fun _ _ _ => by rw [h.2.2]⟩
section Reads
variable {S S2 : eM} {v v2 sp : qV} {sv : Nat → qV} {sn ln : Nat} {tk : Bool} {f : Nat → Int32}
theorem q_M.fp (h : q_M S v sv sn sp tk f ln) (g : q_fp S S2) : q_M S2 v sv sn sp tk f ln := by
  obtain ⟨a, b, c, d, e, i, j⟩ := h
  have r : ∀ k, k < 10 → mI S2 13 0 k = mI S 13 0 k := fun k hk => g.1 13 0 k (fun z => by omega)
  have r14 : ∀ i, mI S2 14 i = mI S 14 i := fun i => funext fun j => g.1 14 i j (fun z => by omega)
  exact ⟨⟨by rw [r14]; exact a.1, a.2⟩, by rw [r 2 (by decide)]; exact b, by rw [r14]; exact c, by rw [r 4 (by decide)]; exact d, by rw [r14]; exact e, by rw [r 7 (by decide)]; exact i, by rw [r14]; exact j⟩
theorem q_X5_isNext {post : eQ} {p : Nat} {lo hi : Int32} (hM : q_M S v sv sn sp tk f ln) (hp : mI S 13 0 10 = nI p) (hpl : p ≤ ln) (h : post (some (aI (cond (decide (p < ln) && (decide (¬ f p < lo) && decide (¬ hi < f p))) 1 0))) S) : w_X5_isNext [aR 13 0, aI lo, aI hi] S post := by
  have h60 := hM.1.2.2
  have h7 := hM.2.2.2.2.2.1
  refine e_walk (stops := [22]) 20 ?_
  refine And.intro (fun c => ?_) (fun c => ?_)
  · have c : mI S 13 0 7 ≤ mI S 13 0 10 := c
    rw [h7, hp] at c
    have := (nI_leI (by omega) (by omega)).mp c
    rw [decide_eq_false (show ¬ p < ln by omega)] at h
    exact h
  · have c : ¬ mI S 13 0 7 ≤ mI S 13 0 10 := c
    rw [h7, hp] at c
    have c : p < ln := Nat.not_le.mp (fun z => c (nI_le z (by omega)))
    rw [decide_eq_true c, Bool.true_and] at h
    refine And.intro (q_in (n := p) hp (show p < 60 by omega) (by decide)) ?_
    show e_Run tb_X5_isNext post e_no 22 [some (aR 13 0), some (aI lo), some (aI hi)] [aI hi, aI lo, aI (mI S 14 4 (mI S 13 0 10).toNatClampNeg)] S 0 0
    rw [hp, nI_clamp (by omega), hM.2.2.2.2.2.2 p c]
    refine e_walk (stops := [25]) 1 ?_
    refine q_X5_in ?_
    refine e_walk (stops := []) 9 ?_
    cases hz : (decide (¬ f p < lo) && decide (¬ hi < f p)) with
    | true => rw [hz] at h; exact And.intro (fun c => absurd c (by decide)) (fun c => h)
    | false => rw [hz] at h; exact And.intro (fun c => h) (fun c => absurd rfl c)
theorem q_X5_takes {post : eQ} {p : Nat} {c : Int32} (hM : q_M S v sv sn sp tk f ln) (hp : mI S 13 0 10 = nI p) (hpl : p ≤ ln) (h1 : p < ln → f p = c → ∀ S2, q_fp S S2 → mI S2 13 0 10 = nI (p + 1) → (∀ j, 10 < j → mI S2 13 0 j = mI S 13 0 j) → post (some (aI 1)) S2) (h0 : (decide (p < ln) && decide (f p = c)) = false → ∀ S2, q_fp S S2 → mI S2 13 0 10 = nI p → (∀ j, 10 < j → mI S2 13 0 j = mI S 13 0 j) → post (some (aI 0)) S2) : w_X5_takes [aR 13 0, aI c] S post := by
  refine e_walk (stops := [6]) 20 ?_
  refine q_X5_isNext hM hp hpl ?_
  rw [q_rg_eq]
  cases hz : (decide (p < ln) && decide (f p = c)) with
  | true =>
    rw [Bool.and_eq_true, decide_eq_true_eq, decide_eq_true_eq] at hz
    refine e_walk (stops := []) 40 ?_
    refine And.intro (fun c => absurd c (by decide)) (fun _ => ?_)
    show post (some (aI 1)) (sI S 13 0 10 (mI S 13 0 10 + 1))
    refine h1 hz.1 hz.2 _ (q_fp.fld (by decide)) ?_ (fun j hj => ?_)
    · rw [q_sI, if_pos rfl, hp, nI_1]
    · rw [q_sI, if_neg (by omega)]
  | false =>
    refine e_walk (stops := []) 40 ?_
    refine And.intro (fun _ => ?_) (fun c => absurd rfl c)
    show post (some (aI 0)) (sI S 13 0 10 (mI S 13 0 10 + 0))
    refine h0 hz _ (q_fp.fld (by decide)) ?_ (fun j hj => ?_)
    · rw [q_sI, if_pos rfl, hp]; exact nI_add p 0
    · rw [q_sI, if_neg (by omega)]
/-- what a chain of letters from p on comes to -/
def q_hc (f : Nat → Int32) (ln : Nat) (S : eM) (p : Nat) (cs : List Int32) (wd : Int32) (post : eQ) : Prop := ∀ S2, q_fp S S2 → mI S2 13 0 10 = nI (p + q_lm f ln cs p) → mI S2 13 0 11 = wd → (∀ j, 11 < j → mI S2 13 0 j = mI S 13 0 j) → post (some (aI (cond (decide (q_lm f ln cs p = cs.length)) 1 0))) S2
theorem q_takesC {post K : eQ} {p : Nat} {c wd : Int32} {cs : List Int32} (hM : q_M S v sv sn sp tk f ln) (hp : mI S 13 0 10 = nI p) (hpl : p ≤ ln) (hw : mI S 13 0 11 = wd) (hc : (decide (48 ≤ c) && decide (c ≤ 57)) = false) (h : q_hc f ln S p (c :: cs) wd post)
    (h1 : ∀ S2, q_M S2 v sv sn sp tk f ln → mI S2 13 0 10 = nI (p + 1) → p + 1 ≤ ln → mI S2 13 0 11 = wd → q_hc f ln S2 (p + 1) cs wd post → K (some (aI 1)) S2) (h0 : ∀ S2, post (some (aI 0)) S2 → K (some (aI 0)) S2) : w_X5_takes [aR 13 0, aI c] S K := by
  refine q_X5_takes hM hp hpl (fun a b S1 g e e2 => ?_) (fun a S1 g e e2 => ?_)
  · refine h1 S1 (hM.fp g) e a ((e2 11 (by decide)).trans hw) (fun S3 g3 e3 e4 e5 => ?_)
    have hl : q_lm f ln (c :: cs) p = q_lm f ln cs (p + 1) + 1 := q_lm_hit a (by rw [q_fit_l hc, decide_eq_true b])
    have := h S3 (g.trans g3) (by rw [hl, e3]; congr 1; omega) e4 (fun j hj => (e5 j hj).trans (e2 j (by omega)))
    rw [hl] at this
    rw [show decide (q_lm f ln cs (p + 1) = cs.length) = decide (q_lm f ln cs (p + 1) + 1 = (c :: cs).length) from decide_eq_decide.mpr ⟨fun z => congrArg (· + 1) z, fun z => Nat.succ.inj z⟩]
    exact this
  · have hl : q_lm f ln (c :: cs) p = 0 := q_lm_miss (by rw [q_fit_l hc]; exact a)
    have := h S1 g (by rw [hl]; exact e) ((e2 11 (by decide)).trans hw) (fun j hj => e2 j (by omega))
    rw [hl, decide_eq_false (by show ¬ 0 = cs.length + 1; omega)] at this
    exact h0 S1 this
theorem q_hc_nil {post : eQ} {p : Nat} {wd : Int32} (h : q_hc f ln S p [] wd post) (hp : mI S 13 0 10 = nI p) (hw : mI S 13 0 11 = wd) : post (some (aI 1)) S := h S q_fp.rf hp hw (fun _ _ => rfl)
/-- a word is laid down -/
theorem q_hc_wd {post : eQ} {p : Nat} {wd : Int32} {cs : List Int32} {x : Int32} (h : q_hc f ln S p cs wd post) : q_hc f ln (sI S 13 0 11 x) p cs wd post := fun S2 g e1 e2 e3 => h S2 ((q_fp.fld (by decide)).trans g) e1 e2 (fun j hj => by rw [e3 j hj, q_sI, if_neg (by omega)])
theorem q_rw_lend {post : eQ} {p : Nat} {x : Int32} (hM : q_M S v sv sn sp tk f ln) (hp : mI S 13 0 10 = nI p) (hpl : p ≤ ln) (h : q_hc f ln S p [101, 110, 100] 1 post) : e_Run tb_X5_readWord post e_no 44 [some (aR 13 0), some (aI x)] [] S 0 0 := by
  have hM : q_M (sI S 13 0 11 1) v sv sn sp tk f ln := hM.fld (by decide) (by decide) (by decide)
  have hp : mI (sI S 13 0 11 1) 13 0 10 = nI p := by rw [q_sI, if_neg (by decide)]; exact hp
  have hw : mI (sI S 13 0 11 1) 13 0 11 = 1 := by rw [q_sI, if_pos rfl]
  have h : q_hc f ln (sI S 13 0 11 1) p [101, 110, 100] 1 post := q_hc_wd h
  refine e_walk (stops := [55]) 20 ?_
  show w_X5_takes [aR 13 0, aI 101] (sI S 13 0 11 1) _
  generalize sI S 13 0 11 1 = S at *
  refine q_takesC hM hp hpl hw (by decide) h (fun S hM hp hpl hw h => ?_) (fun S y => ?_)
  case refine_2 => exact e_walk (stops := []) 20 (And.intro (fun _ => y) (fun c => absurd rfl c))
  refine e_walk (stops := [64]) 20 ?_
  refine And.intro (fun c => absurd c (by decide)) (fun _ => ?_)
  refine q_takesC hM hp hpl hw (by decide) h (fun S hM hp hpl hw h => ?_) (fun S y => ?_)
  case refine_2 => exact e_walk (stops := []) 20 (And.intro (fun _ => y) (fun c => absurd rfl c))
  refine e_walk (stops := [73]) 20 ?_
  refine And.intro (fun c => absurd c (by decide)) (fun _ => ?_)
  refine q_takesC hM hp hpl hw (by decide) h (fun S hM hp hpl hw h => ?_) (fun S y => ?_)
  case refine_2 => exact e_walk (stops := []) 20 (And.intro (fun _ => y) (fun c => absurd rfl c))
  refine e_walk (stops := []) 20 ?_
  exact And.intro (fun c => absurd c (by decide)) (fun _ => q_hc_nil h hp hw)
theorem q_rw_back {post : eQ} {p : Nat} {x : Int32} (hM : q_M S v sv sn sp tk f ln) (hp : mI S 13 0 10 = nI p) (hpl : p ≤ ln) (h : q_hc f ln S p [97, 99, 107] 2 post) : e_Run tb_X5_readWord post e_no 82 [some (aR 13 0), some (aI x)] [] S 0 0 := by
  have hM : q_M (sI S 13 0 11 2) v sv sn sp tk f ln := hM.fld (by decide) (by decide) (by decide)
  have hp : mI (sI S 13 0 11 2) 13 0 10 = nI p := by rw [q_sI, if_neg (by decide)]; exact hp
  have hw : mI (sI S 13 0 11 2) 13 0 11 = 2 := by rw [q_sI, if_pos rfl]
  have h : q_hc f ln (sI S 13 0 11 2) p [97, 99, 107] 2 post := q_hc_wd h
  refine e_walk (stops := [93]) 20 ?_
  show w_X5_takes [aR 13 0, aI 97] (sI S 13 0 11 2) _
  generalize sI S 13 0 11 2 = S at *
  refine q_takesC hM hp hpl hw (by decide) h (fun S hM hp hpl hw h => ?_) (fun S y => ?_)
  case refine_2 => exact e_walk (stops := []) 20 (And.intro (fun _ => y) (fun c => absurd rfl c))
  refine e_walk (stops := [102]) 20 ?_
  refine And.intro (fun c => absurd c (by decide)) (fun _ => ?_)
  refine q_takesC hM hp hpl hw (by decide) h (fun S hM hp hpl hw h => ?_) (fun S y => ?_)
  case refine_2 => exact e_walk (stops := []) 20 (And.intro (fun _ => y) (fun c => absurd rfl c))
  refine e_walk (stops := [111]) 20 ?_
  refine And.intro (fun c => absurd c (by decide)) (fun _ => ?_)
  refine q_takesC hM hp hpl hw (by decide) h (fun S hM hp hpl hw h => ?_) (fun S y => ?_)
  case refine_2 => exact e_walk (stops := []) 20 (And.intro (fun _ => y) (fun c => absurd rfl c))
  refine e_walk (stops := []) 20 ?_
  exact And.intro (fun c => absurd c (by decide)) (fun _ => q_hc_nil h hp hw)
theorem q_rw_teach {post : eQ} {p : Nat} {x : Int32} (hM : q_M S v sv sn sp tk f ln) (hp : mI S 13 0 10 = nI p) (hpl : p ≤ ln) (h : q_hc f ln S p [101, 97, 99, 104] 3 post) : e_Run tb_X5_readWord post e_no 120 [some (aR 13 0), some (aI x)] [] S 0 0 := by
  have hM : q_M (sI S 13 0 11 3) v sv sn sp tk f ln := hM.fld (by decide) (by decide) (by decide)
  have hp : mI (sI S 13 0 11 3) 13 0 10 = nI p := by rw [q_sI, if_neg (by decide)]; exact hp
  have hw : mI (sI S 13 0 11 3) 13 0 11 = 3 := by rw [q_sI, if_pos rfl]
  have h : q_hc f ln (sI S 13 0 11 3) p [101, 97, 99, 104] 3 post := q_hc_wd h
  refine e_walk (stops := [131]) 20 ?_
  show w_X5_takes [aR 13 0, aI 101] (sI S 13 0 11 3) _
  generalize sI S 13 0 11 3 = S at *
  refine q_takesC hM hp hpl hw (by decide) h (fun S hM hp hpl hw h => ?_) (fun S y => ?_)
  case refine_2 => exact e_walk (stops := []) 20 (And.intro (fun _ => y) (fun c => absurd rfl c))
  refine e_walk (stops := [140]) 20 ?_
  refine And.intro (fun c => absurd c (by decide)) (fun _ => ?_)
  refine q_takesC hM hp hpl hw (by decide) h (fun S hM hp hpl hw h => ?_) (fun S y => ?_)
  case refine_2 => exact e_walk (stops := []) 20 (And.intro (fun _ => y) (fun c => absurd rfl c))
  refine e_walk (stops := [149]) 20 ?_
  refine And.intro (fun c => absurd c (by decide)) (fun _ => ?_)
  refine q_takesC hM hp hpl hw (by decide) h (fun S hM hp hpl hw h => ?_) (fun S y => ?_)
  case refine_2 => exact e_walk (stops := []) 20 (And.intro (fun _ => y) (fun c => absurd rfl c))
  refine e_walk (stops := [158]) 20 ?_
  refine And.intro (fun c => absurd c (by decide)) (fun _ => ?_)
  refine q_takesC hM hp hpl hw (by decide) h (fun S hM hp hpl hw h => ?_) (fun S y => ?_)
  case refine_2 => exact e_walk (stops := []) 20 (And.intro (fun _ => y) (fun c => absurd rfl c))
  refine e_walk (stops := []) 20 ?_
  exact And.intro (fun c => absurd c (by decide)) (fun _ => q_hc_nil h hp hw)
theorem q_rw_day {post : eQ} {p : Nat} {x : Int32} (hM : q_M S v sv sn sp tk f ln) (hp : mI S 13 0 10 = nI p) (hpl : p ≤ ln) (h : q_hc f ln S p [97, 121] 6 post) : e_Run tb_X5_readWord post e_no 167 [some (aR 13 0), some (aI x)] [] S 0 0 := by
  have hM : q_M (sI S 13 0 11 6) v sv sn sp tk f ln := hM.fld (by decide) (by decide) (by decide)
  have hp : mI (sI S 13 0 11 6) 13 0 10 = nI p := by rw [q_sI, if_neg (by decide)]; exact hp
  have hw : mI (sI S 13 0 11 6) 13 0 11 = 6 := by rw [q_sI, if_pos rfl]
  have h : q_hc f ln (sI S 13 0 11 6) p [97, 121] 6 post := q_hc_wd h
  refine e_walk (stops := [179]) 20 ?_
  show w_X5_takes [aR 13 0, aI 97] (sI S 13 0 11 6) _
  generalize sI S 13 0 11 6 = S at *
  refine q_takesC hM hp hpl hw (by decide) h (fun S hM hp hpl hw h => ?_) (fun S y => ?_)
  case refine_2 => exact e_walk (stops := []) 20 (And.intro (fun _ => y) (fun c => absurd rfl c))
  refine e_walk (stops := [188]) 20 ?_
  refine And.intro (fun c => absurd c (by decide)) (fun _ => ?_)
  refine q_takesC hM hp hpl hw (by decide) h (fun S hM hp hpl hw h => ?_) (fun S y => ?_)
  case refine_2 => exact e_walk (stops := []) 20 (And.intro (fun _ => y) (fun c => absurd rfl c))
  refine e_walk (stops := []) 20 ?_
  exact And.intro (fun c => absurd c (by decide)) (fun _ => q_hc_nil h hp hw)
theorem q_rw_march {post : eQ} {p : Nat} {x : Int32} (hM : q_M S v sv sn sp tk f ln) (hp : mI S 13 0 10 = nI p) (hpl : p ≤ ln) (h : q_hc f ln S p [114, 99, 104] 4 post) : e_Run tb_X5_readWord post e_no 206 [some (aR 13 0), some (aI x)] [] S 0 0 := by
  have hM : q_M (sI S 13 0 11 4) v sv sn sp tk f ln := hM.fld (by decide) (by decide) (by decide)
  have hp : mI (sI S 13 0 11 4) 13 0 10 = nI p := by rw [q_sI, if_neg (by decide)]; exact hp
  have hw : mI (sI S 13 0 11 4) 13 0 11 = 4 := by rw [q_sI, if_pos rfl]
  have h : q_hc f ln (sI S 13 0 11 4) p [114, 99, 104] 4 post := q_hc_wd h
  refine e_walk (stops := [217]) 20 ?_
  show w_X5_takes [aR 13 0, aI 114] (sI S 13 0 11 4) _
  generalize sI S 13 0 11 4 = S at *
  refine q_takesC hM hp hpl hw (by decide) h (fun S hM hp hpl hw h => ?_) (fun S y => ?_)
  case refine_2 => exact e_walk (stops := []) 20 (And.intro (fun _ => y) (fun c => absurd rfl c))
  refine e_walk (stops := [226]) 20 ?_
  refine And.intro (fun c => absurd c (by decide)) (fun _ => ?_)
  refine q_takesC hM hp hpl hw (by decide) h (fun S hM hp hpl hw h => ?_) (fun S y => ?_)
  case refine_2 => exact e_walk (stops := []) 20 (And.intro (fun _ => y) (fun c => absurd rfl c))
  refine e_walk (stops := [235]) 20 ?_
  refine And.intro (fun c => absurd c (by decide)) (fun _ => ?_)
  refine q_takesC hM hp hpl hw (by decide) h (fun S hM hp hpl hw h => ?_) (fun S y => ?_)
  case refine_2 => exact e_walk (stops := []) 20 (And.intro (fun _ => y) (fun c => absurd rfl c))
  refine e_walk (stops := []) 20 ?_
  exact And.intro (fun c => absurd c (by decide)) (fun _ => q_hc_nil h hp hw)
theorem q_rw_mend {post : eQ} {p : Nat} {x : Int32} (hM : q_M S v sv sn sp tk f ln) (hp : mI S 13 0 10 = nI p) (hpl : p ≤ ln) (h : q_hc f ln S p [101, 110, 100] 5 post) : e_Run tb_X5_readWord post e_no 244 [some (aR 13 0), some (aI x)] [] S 0 0 := by
  have hM : q_M (sI S 13 0 11 5) v sv sn sp tk f ln := hM.fld (by decide) (by decide) (by decide)
  have hp : mI (sI S 13 0 11 5) 13 0 10 = nI p := by rw [q_sI, if_neg (by decide)]; exact hp
  have hw : mI (sI S 13 0 11 5) 13 0 11 = 5 := by rw [q_sI, if_pos rfl]
  have h : q_hc f ln (sI S 13 0 11 5) p [101, 110, 100] 5 post := q_hc_wd h
  refine e_walk (stops := [255]) 20 ?_
  show w_X5_takes [aR 13 0, aI 101] (sI S 13 0 11 5) _
  generalize sI S 13 0 11 5 = S at *
  refine q_takesC hM hp hpl hw (by decide) h (fun S hM hp hpl hw h => ?_) (fun S y => ?_)
  case refine_2 => exact e_walk (stops := []) 20 (And.intro (fun _ => y) (fun c => absurd rfl c))
  refine e_walk (stops := [264]) 20 ?_
  refine And.intro (fun c => absurd c (by decide)) (fun _ => ?_)
  refine q_takesC hM hp hpl hw (by decide) h (fun S hM hp hpl hw h => ?_) (fun S y => ?_)
  case refine_2 => exact e_walk (stops := []) 20 (And.intro (fun _ => y) (fun c => absurd rfl c))
  refine e_walk (stops := [273]) 20 ?_
  refine And.intro (fun c => absurd c (by decide)) (fun _ => ?_)
  refine q_takesC hM hp hpl hw (by decide) h (fun S hM hp hpl hw h => ?_) (fun S y => ?_)
  case refine_2 => exact e_walk (stops := []) 20 (And.intro (fun _ => y) (fun c => absurd rfl c))
  refine e_walk (stops := []) 20 ?_
  exact And.intro (fun c => absurd c (by decide)) (fun _ => q_hc_nil h hp hw)
/-- the letters of a word behind its first one -/
def q_rest : Nat → List Int32
  | 0 => [101, 110, 100] | 1 => [97, 99, 107] | 2 => [101, 97, 99, 104] | 3 => [97, 114, 99, 104] | 4 => [101, 110, 100] | 5 => [97, 121] | _ => []
theorem q_X5_readWord {post : eQ} {p w : Nat} {x : Int32} (hM : q_M S v sv sn sp tk f ln) (hp : mI S 13 0 10 = nI p) (hpl : p ≤ ln) (hx : (x = 108 ∧ w = 0) ∨ (x = 98 ∧ w = 1) ∨ (x = 116 ∧ w = 2) ∨ (x = 100 ∧ w = 5) ∨ (x = 109 ∧ w = cond (decide (p < ln) && decide (f p = 97)) 3 4)) (h : q_hc f ln S p (q_rest w) (nI (w + 1)) post) : w_X5_readWord [aR 13 0, aI x] S post := by
  refine e_walk (stops := [44, 82, 120, 167, 197]) 20 ?_
  rcases hx with ⟨rfl, rfl⟩ | ⟨rfl, rfl⟩ | ⟨rfl, rfl⟩ | ⟨rfl, rfl⟩ | ⟨rfl, hw⟩
  · exact And.intro (fun c => absurd c (by decide)) (fun _ => And.intro (fun c => absurd c (by decide)) (fun _ => And.intro (fun _ => show e_Run tb_X5_readWord post e_no 44 [some (aR 13 0), some (aI 108)] [] S 0 0 from q_rw_lend hM hp hpl h) (fun c => absurd rfl c)))
  · exact And.intro (fun _ => show e_Run tb_X5_readWord post e_no 82 [some (aR 13 0), some (aI 98)] [] S 0 0 from q_rw_back hM hp hpl h) (fun c => absurd rfl c)
  · exact And.intro (fun c => absurd c (by decide)) (fun _ => And.intro (fun c => absurd c (by decide)) (fun _ => And.intro (fun c => absurd c (by decide)) (fun _ => And.intro (fun _ => show e_Run tb_X5_readWord post e_no 120 [some (aR 13 0), some (aI 116)] [] S 0 0 from q_rw_teach hM hp hpl h) (fun c => absurd rfl c))))
  · exact And.intro (fun c => absurd c (by decide)) (fun _ => And.intro (fun _ => show e_Run tb_X5_readWord post e_no 167 [some (aR 13 0), some (aI 100)] [] S 0 0 from q_rw_day hM hp hpl h) (fun c => absurd rfl c))
  · refine And.intro (fun c => absurd c (by decide)) (fun _ => And.intro (fun c => absurd c (by decide)) (fun _ => And.intro (fun c => absurd c (by decide)) (fun _ => And.intro (fun c => absurd c (by decide)) (fun _ => ?_))))
    refine e_walk (stops := [203]) 20 ?_
    refine q_X5_takes hM hp hpl (fun a b S1 g e e2 => ?_) (fun a S1 g e e2 => ?_)
    · rw [decide_eq_true a, decide_eq_true b, Bool.and_self, cond_true] at hw
      subst hw
      refine e_walk (stops := [206]) 20 ?_
      refine And.intro (fun c => absurd c (by decide)) (fun _ => ?_)
      refine q_rw_march (hM.fp g) e a (fun S3 g3 e3 e4 e5 => ?_)
      have hl : q_lm f ln (q_rest 3) p = q_lm f ln [114, 99, 104] (p + 1) + 1 := q_lm_hit a (by rw [q_fit_l (by decide), decide_eq_true b])
      have := h S3 (g.trans g3) (by rw [hl, e3]; congr 1; omega) e4 (fun j hj => (e5 j hj).trans (e2 j (by omega)))
      rw [hl] at this
      rw [show decide (q_lm f ln [114, 99, 104] (p + 1) = [(114 : Int32), 99, 104].length) = decide (q_lm f ln [114, 99, 104] (p + 1) + 1 = (q_rest 3).length) from decide_eq_decide.mpr ⟨fun z => congrArg (· + 1) z, fun z => Nat.succ.inj z⟩]
      exact this
    · rw [a, cond_false] at hw
      subst hw
      refine e_walk (stops := [244]) 20 ?_
      refine And.intro (fun _ => ?_) (fun c => absurd rfl c)
      exact q_rw_mend (hM.fp g) e hpl (fun S3 g3 e3 e4 e5 => h S3 (g.trans g3) e3 e4 (fun j hj => (e5 j hj).trans (e2 j (by omega))))
theorem q_X5_readOne {post : eQ} {p n : Nat} (hM : q_M S v sv sn sp tk f ln) (hp : mI S 13 0 10 = nI p) (hpl : p ≤ ln) (hn : n ≤ 9) (h1 : p < ln → q_fit (f p) (nI (48 + n)) = true → ∀ S2, q_fp S S2 → mI S2 13 0 10 = nI (p + 1) → mI S2 13 0 12 = f p - 48 → (∀ j, 10 < j → j ≠ 12 → mI S2 13 0 j = mI S 13 0 j) → post (some (aI 1)) S2) (h0 : (decide (p < ln) && q_fit (f p) (nI (48 + n))) = false → ∀ S2, q_fp S S2 → mI S2 13 0 10 = nI p → (∀ j, 10 < j → j ≠ 12 → mI S2 13 0 j = mI S 13 0 j) → post (some (aI 0)) S2) : w_X5_readOne [aR 13 0, aI (nI n)] S post := by
  have h60 := hM.1.2.2
  have hf : q_fit (f p) (nI (48 + n)) = (decide (¬ f p < 48) && decide (¬ nI (48 + n) < f p)) := by
    refine q_fit_d ?_
    rw [decide_eq_true (show (48 : Int32) ≤ nI (48 + n) from nI_le (a := 48) (by omega) (by omega)), decide_eq_true (show nI (48 + n) ≤ (57 : Int32) from nI_le (b := 57) (by omega) (by decide))]; rfl
  refine e_walk (stops := [7]) 20 ?_
  show e_Run tb_X5_readOne post e_no 7 [some (aR 13 0), some (aI (nI n)), none] [aI (48 + nI n), aI 48, aR 13 0] S 0 0
  rw [show (48 : Int32) + nI n = nI (48 + n) from nI_add 48 n]
  refine e_walk (stops := [10]) 1 ?_
  refine q_X5_isNext hM hp hpl ?_
  rw [← hf]
  cases hz : (decide (p < ln) && q_fit (f p) (nI (48 + n))) with
  | true =>
    rw [Bool.and_eq_true, decide_eq_true_eq] at hz
    refine e_walk (stops := [32]) 20 ?_
    refine And.intro (fun c => absurd c (by decide)) (fun _ => ?_)
    refine And.intro (q_in (n := p) hp (show p < 60 by omega) (by decide)) ?_
    show e_Run tb_X5_readOne post e_no 32 [some (aR 13 0), some (aI (nI n)), some (aI 1)] [aI (mI S 14 4 (mI S 13 0 10).toNatClampNeg - 48), aR 13 0] S 0 0
    rw [hp, nI_clamp (by omega), hM.2.2.2.2.2.2 p hz.1]
    refine e_walk (stops := []) 20 ?_
    refine And.intro (fun c => absurd c (by decide)) (fun _ => ?_)
    show post (some (aI 1)) (sI (sI S 13 0 12 (f p - 48)) 13 0 10 (mI (sI S 13 0 12 (f p - 48)) 13 0 10 + 1))
    refine h1 hz.1 hz.2 _ ((q_fp.fld (by decide)).trans (q_fp.fld (by decide))) ?_ ?_ (fun j hj hj2 => ?_)
    · rw [q_sI, if_pos rfl, q_sI, if_neg (by decide), hp, nI_1]
    · rw [q_sI, if_neg (by decide), q_sI, if_pos rfl]
    · rw [q_sI, if_neg (by omega), q_sI, if_neg hj2]
  | false =>
    refine e_walk (stops := [32]) 20 ?_
    refine And.intro (fun _ => ?_) (fun c => absurd rfl c)
    refine e_walk (stops := []) 20 ?_
    refine And.intro (fun _ => ?_) (fun c => absurd rfl c)
    show post (some (aI 0)) (sI (sI S 13 0 12 0) 13 0 10 (mI (sI S 13 0 12 0) 13 0 10 + 0))
    refine h0 hz _ ((q_fp.fld (by decide)).trans (q_fp.fld (by decide))) ?_ (fun j hj hj2 => ?_)
    · rw [q_sI, if_pos rfl, q_sI, if_neg (by decide), hp]; exact nI_add p 0
    · rw [q_sI, if_neg (by omega), q_sI, if_neg hj2]
theorem q_X5_readOther {post : eQ} {p n : Nat} (hM : q_M S v sv sn sp tk f ln) (hp : mI S 13 0 10 = nI p) (hpl : p ≤ ln) (hn : n ≤ 9) (h1 : p < ln → q_fit (f p) (nI (48 + n)) = true → ∀ S2, q_fp S S2 → mI S2 13 0 10 = nI (p + 1) → mI S2 13 0 13 = f p - 48 → (∀ j, 10 < j → j ≠ 13 → mI S2 13 0 j = mI S 13 0 j) → post (some (aI 1)) S2) (h0 : (decide (p < ln) && q_fit (f p) (nI (48 + n))) = false → ∀ S2, q_fp S S2 → mI S2 13 0 10 = nI p → (∀ j, 10 < j → j ≠ 13 → mI S2 13 0 j = mI S 13 0 j) → post (some (aI 0)) S2) : w_X5_readOther [aR 13 0, aI (nI n)] S post := by
  have h60 := hM.1.2.2
  have hf : q_fit (f p) (nI (48 + n)) = (decide (¬ f p < 48) && decide (¬ nI (48 + n) < f p)) := by
    refine q_fit_d ?_
    rw [decide_eq_true (show (48 : Int32) ≤ nI (48 + n) from nI_le (a := 48) (by omega) (by omega)), decide_eq_true (show nI (48 + n) ≤ (57 : Int32) from nI_le (b := 57) (by omega) (by decide))]; rfl
  refine e_walk (stops := [7]) 20 ?_
  show e_Run tb_X5_readOther post e_no 7 [some (aR 13 0), some (aI (nI n)), none] [aI (48 + nI n), aI 48, aR 13 0] S 0 0
  rw [show (48 : Int32) + nI n = nI (48 + n) from nI_add 48 n]
  refine e_walk (stops := [10]) 1 ?_
  refine q_X5_isNext hM hp hpl ?_
  rw [← hf]
  cases hz : (decide (p < ln) && q_fit (f p) (nI (48 + n))) with
  | true =>
    rw [Bool.and_eq_true, decide_eq_true_eq] at hz
    refine e_walk (stops := [32]) 20 ?_
    refine And.intro (fun c => absurd c (by decide)) (fun _ => ?_)
    refine And.intro (q_in (n := p) hp (show p < 60 by omega) (by decide)) ?_
    show e_Run tb_X5_readOther post e_no 32 [some (aR 13 0), some (aI (nI n)), some (aI 1)] [aI (mI S 14 4 (mI S 13 0 10).toNatClampNeg - 48), aR 13 0] S 0 0
    rw [hp, nI_clamp (by omega), hM.2.2.2.2.2.2 p hz.1]
    refine e_walk (stops := []) 20 ?_
    refine And.intro (fun c => absurd c (by decide)) (fun _ => ?_)
    show post (some (aI 1)) (sI (sI S 13 0 13 (f p - 48)) 13 0 10 (mI (sI S 13 0 13 (f p - 48)) 13 0 10 + 1))
    refine h1 hz.1 hz.2 _ ((q_fp.fld (by decide)).trans (q_fp.fld (by decide))) ?_ ?_ (fun j hj hj2 => ?_)
    · rw [q_sI, if_pos rfl, q_sI, if_neg (by decide), hp, nI_1]
    · rw [q_sI, if_neg (by decide), q_sI, if_pos rfl]
    · rw [q_sI, if_neg (by omega), q_sI, if_neg hj2]
  | false =>
    refine e_walk (stops := [32]) 20 ?_
    refine And.intro (fun _ => ?_) (fun c => absurd rfl c)
    refine e_walk (stops := []) 20 ?_
    refine And.intro (fun _ => ?_) (fun c => absurd rfl c)
    show post (some (aI 0)) (sI (sI S 13 0 13 0) 13 0 10 (mI (sI S 13 0 13 0) 13 0 10 + 0))
    refine h0 hz _ ((q_fp.fld (by decide)).trans (q_fp.fld (by decide))) ?_ (fun j hj hj2 => ?_)
    · rw [q_sI, if_pos rfl, q_sI, if_neg (by decide), hp]; exact nI_add p 0
    · rw [q_sI, if_neg (by omega), q_sI, if_neg hj2]
end Reads
