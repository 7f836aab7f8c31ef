/-! What walks come to: the reference's hash. Own work. -/
section Dig
variable {S S1 S2 : eM} {v v2 sp : qV} {sv : Nat → qV} {sn ln : Nat} {tk : Bool} {tx : Nat → Int32} {B np ni nl : Nat}
def q_mx (h x : Int64) : Int64 := 31 * h + x
def q_fold (g : Nat → Int64) : Nat → Int64 → Int64
  | 0, h => h
  | n + 1, h => q_mx (q_fold g n h) (g n)
/-- how long a line-up told is, of d parts from k on -/
def q_tl (m : Nat) : Nat → Nat → Nat
  | 0, _ => 0
  | d + 1, k => q_nl (q_kf m k) + 2 + (if k < 3 then 1 else 0) + q_tl m d (k + 1)
theorem q_lt_ne : ∀ c, c < 4 → ∀ l, l < q_nl c → ¬ q_lt c l = -1 := by decide +kernel
theorem q_pl_ge {m k : Nat} (hnp : np ≤ 10) : (if q_pl v m np k = -1 then (45 : Int32) else 48 + q_pl v m np k) ≠ -1 := by
  rcases q_pl_could v m np k with y | ⟨b, y1, y2, y3⟩
  · rw [if_pos y]; decide
  · rw [if_neg (by rw [y2]; exact q_nIne (by omega)), y2, show (48 : Int32) + nI b = nI (48 + b) from nI_add 48 b]
    exact q_nIne (by omega)
theorem q_ch_end {m : Nat} (hnp : np ≤ 10) : ∀ d k l, k + d = 4 → (q_ch v m np d k l = -1 ↔ q_tl m d k ≤ l)
  | 0, k, l, _ => ⟨fun _ => Nat.zero_le _, fun _ => rfl⟩
  | d + 1, k, l, h => by
    have hkf : q_kf m k < 4 := Nat.mod_lt _ (by decide)
    have hpl := q_pl_ge (v := v) (m := m) (k := k) hnp
    rw [q_ch, q_tl]
    by_cases c1 : l < q_nl (q_kf m k)
    · rw [if_pos c1]
      exact ⟨fun z => absurd z (q_lt_ne _ hkf _ c1), fun z => by omega⟩
    rw [if_neg c1]
    by_cases c2 : l = q_nl (q_kf m k)
    · rw [if_pos c2]
      exact ⟨fun z => absurd z (by decide), fun z => by omega⟩
    rw [if_neg c2]
    by_cases c3 : l = q_nl (q_kf m k) + 1
    · rw [if_pos c3]
      exact ⟨fun z => absurd z hpl, fun z => by omega⟩
    rw [if_neg c3]
    by_cases c5 : k < 3
    · rw [if_pos c5]
      by_cases c4 : l = q_nl (q_kf m k) + 2
      · rw [if_pos ⟨c4, c5⟩]
        exact ⟨fun z => absurd z (by decide), fun z => by omega⟩
      · rw [if_neg (fun z => c4 z.1), q_ch_end hnp d (k + 1) _ (by omega)]
        omega
    · rw [if_neg c5, if_neg (fun z => c5 z.2)]
      obtain rfl : d = 0 := by omega
      exact ⟨fun _ => by show _ + 2 + 0 + 0 ≤ l; omega, fun _ => rfl⟩
/-- within the hash: what has been kept, and the hash so far -/
def q_dg (S : eM) (v : qV) (sv : Nat → qV) (sn : Nat) (sp : qV) (tk : Bool) (tx : Nat → Int32) (ln : Nat) (S1 : eM) (h : Int64) : Prop := (q_fm S S1 ∧ mI S1 13 0 8 = 0) ∧ q_M S1 v sv sn sp tk tx ln ∧ mL S1 13 0 15 = h
theorem q_X5_mix {post : eQ} {h x : Int64} (hd : q_dg S v sv sn sp tk tx ln S1 h) (hp : ∀ S2, q_dg S v sv sn sp tk tx ln S2 (q_mx h x) → post none S2) : w_X5_mix [aR 13 0, aL x] S1 post := by
  obtain ⟨⟨a, b⟩, c, d⟩ := hd
  refine e_walk (stops := []) 20 ?_
  show post none (sL S1 13 0 15 (31 * mL S1 13 0 15 + x))
  rw [d]
  refine hp _ ⟨⟨a.trans ⟨fun _ _ _ _ => rfl, rfl, fun k i hk => ?_⟩, b⟩, c, ?_⟩
  · exact e_u3_ne (fun z => hk (congrArg Prod.fst z))
  · show e_u3 (mL S1) 13 0 15 (31 * h + x) 13 0 15 = 31 * h + x
    exact e_u3_eq
theorem q_dg.fm {h : Int64} (hd : q_dg S v sv sn sp tk tx ln S1 h) (f : q_fm S1 S2) (m : q_M S2 v sv sn sp tk tx ln) (e : mL S2 = mL S1) (e8 : mI S2 13 0 = mI S1 13 0) : q_dg S v sv sn sp tk tx ln S2 h :=
  ⟨⟨hd.1.1.trans f, by rw [e8]; exact hd.1.2⟩, m, by rw [e]; exact hd.2.2⟩
theorem q_dg.of5 {h : Int64} (hd : q_dg S v sv sn sp tk tx ln S1 h) (f : q_fr1 5 S1 S2) : q_dg S v sv sn sp tk tx ln S2 h := hd.fm (q_fm.of1 f) (hd.2.1.of5 f) f.2.2 (f.1 13 0 (by decide))
theorem q_dg.of3 {h : Int64} (hd : q_dg S v sv sn sp tk tx ln S1 h) (f : q_fr3 S1 S2) (e : mI S2 14 0 = mI S1 14 0) : q_dg S v sv sn sp tk tx ln S2 h := hd.fm (q_fm.of3 f) (hd.2.1.of3 f e) f.2.2 (f.1 13 0 (by decide))
theorem q_dg.ok {h : Int64} (hd : q_dg S v sv sn sp tk tx ln S1 h) (hv : q_ok0 v np ni) : q_ok0 (mI S1 14 0) np ni := by rw [hd.2.1.eqv]; exact hv
/-- a march's part of the hash -/
def q_hm (v : qV) (m np : Nat) (h : Int64) : Int64 := q_fold (fun k => (q_ch v m np 4 0 k).toInt64) (q_tl m 4 0) (q_mx (q_mx (q_mx h (nI (q_sh v m np 4)).toInt64) (q_mos v m np 16).toInt64) (q_hl v m np 2 np 0).toInt64)
theorem q_tl_lt {m : Nat} (hm : m < 4) : q_tl m 4 0 < 65536 := by
  rcases (show m = 0 ∨ m = 1 ∨ m = 2 ∨ m = 3 by omega) with rfl | rfl | rfl | rfl <;> decide
theorem q_X5_mixMarch {post : eQ} {m : Nat} {h : Int64} (hd : q_dg S v sv sn sp tk tx ln S1 h) (hv : q_ok0 v np ni) (hm : m < 4) (hp : ∀ S2, q_dg S v sv sn sp tk tx ln S2 (q_hm v m np h) → post none S2) : w_X5_mixMarch [aR 13 0, aI (nI m)] S1 post := by
  refine e_walk (stops := [6]) 20 ?_
  refine q_X5_lineUp (hd.ok hv) hm (fun S2 f2 _ => ?_)
  rw [hd.2.1.eqv]
  have hd2 := hd.of5 f2
  refine e_walk (stops := [10]) 20 ?_
  refine q_X5_mix hd2 (fun S3 hd3 => ?_)
  refine e_walk (stops := [16]) 20 ?_
  refine q_X5_mostTold (hd3.ok hv) hm ?_
  rw [hd3.2.1.eqv]
  refine e_walk (stops := [20]) 20 ?_
  refine q_X5_mix hd3 (fun S4 hd4 => ?_)
  refine e_walk (stops := [27]) 20 ?_
  refine q_X5_helpsTold (t := 2) (hd4.ok hv) hm (by decide) (fun S5 f5 e5 => ?_)
  rw [hd4.2.1.eqv]
  have hd5 := hd4.of3 f5 e5
  refine e_walk (stops := [31]) 20 ?_
  refine q_X5_mix hd5 (fun S6 hd6 => ?_)
  refine e_walk (stops := [33]) 20 ?_
  have hlt := q_tl_lt hm
  have hnp := hv.1
  unfold q_hm at hp
  generalize q_mx (q_mx (q_mx h (nI (q_sh v m np 4)).toInt64) (q_mos v m np 16).toInt64) (q_hl v m np 2 np 0).toInt64 = h0 at *
  have loop : ∀ d k, k + d = q_tl m 4 0 → ∀ S7, q_dg S v sv sn sp tk tx ln S7 (q_fold (fun k => (q_ch v m np 4 0 k).toInt64) k h0) → e_Run tb_X5_mixMarch post e_no 33 [some (aR 13 0), some (aI (nI m)), some (aI (nI k))] [] S7 0 0 := by
    intro d
    induction d with
    | zero =>
      intro k hk S7 hd7
      refine e_walk (stops := [39]) 20 ?_
      refine q_X5_charOf (hd7.ok hv) hm (by omega) (fun S8 f8 => ?_)
      rw [hd7.2.1.eqv, (q_ch_end hnp 4 0 k rfl).mpr (by omega)]
      have hk : k = q_tl m 4 0 := by omega
      rw [hk] at hd7
      refine e_walk (stops := []) 20 ?_
      exact And.intro (fun _ => hp S8 (hd7.of5 f8)) (fun c => absurd rfl c)
    | succ d ih =>
      intro k hk S7 hd7
      have hne : ¬ q_ch v m np 4 0 k = -1 := fun z => by
        have := (q_ch_end hnp 4 0 k rfl).mp z
        omega
      refine e_walk (stops := [39]) 20 ?_
      refine q_X5_charOf (hd7.ok hv) hm (by omega) (fun S8 f8 => ?_)
      rw [hd7.2.1.eqv]
      have hd8 := hd7.of5 f8
      refine e_walk (stops := [50]) 20 ?_
      refine And.intro (fun c => absurd c hne) (fun _ => ?_)
      refine q_X5_charOf (hd8.ok hv) hm (by omega) (fun S9 f9 => ?_)
      rw [hd8.2.1.eqv]
      have hd9 := hd8.of5 f9
      refine e_walk (stops := [54]) 20 ?_
      refine q_X5_mix hd9 (fun S10 hd10 => ?_)
      refine e_walk (stops := [33]) 20 ?_
      show e_Run tb_X5_mixMarch post e_no 33 [some (aR 13 0), some (aI (nI m)), some (aI (nI k + 1))] [] S10 0 0
      rw [nI_1]
      exact ih (k + 1) (by omega) S10 hd10
  exact loop (q_tl m 4 0) 0 (by omega) S6 hd6
def q_pg (v : qV) (k : Nat) : Int64 := if k % 10 < 7 then (q_pTold v (k / 10) (k % 10)).toInt64 else (nI (q_whyLesson v (k / 10) (k % 10 - 7))).toInt64
/-- the hash of all -/
def q_dig (v : qV) (np ni nl sn mm ss : Nat) (tx : Nat → Int32) (ln : Nat) : Int64 :=
  q_fold (fun k => (tx k).toInt64) ln (q_mx (q_mx (q_mx
    (q_hm v 3 np (q_hm v 2 np (q_hm v 1 np (q_hm v 0 np
      (q_fold (fun k => (q_lTold v k).toInt64) nl
        (q_fold (fun k => (q_iTold v (k / 6) (k % 6)).toInt64) (6 * ni)
          (q_fold (q_pg v) (10 * np)
            (q_fold (fun w => (q_cTold v np sn w).toInt64) 19 3733))))))))
    (nI (q_bs v np 4)).toInt64) (q_bits (q_shr mm ss))) (nI ln).toInt64)
theorem q_dm10 : ∀ k, k < 100 → nI k - nI k / 10 * 10 = nI (k % 10) ∧ nI k / 10 = nI (k / 10) := by decide +kernel
theorem q_dm6 : ∀ k, k < 60 → nI k - nI k / 6 * 6 = nI (k % 6) ∧ nI k / 6 = nI (k / 6) := by decide +kernel
theorem q_dg_1 {post : eQ} (hv : q_ok0 v np ni) (hp : ∀ S2, q_dg S v sv sn sp tk tx ln S2 (q_fold (fun w => (q_cTold v np sn w).toInt64) 19 3733) → e_Run tb_X5_digest post e_no 36 [some (aR 13 0), some (aI 19)] [] S2 0 0) : ∀ d k, k + d = 19 → ∀ S7, q_dg S v sv sn sp tk tx ln S7 (q_fold (fun w => (q_cTold v np sn w).toInt64) k 3733) → e_Run tb_X5_digest post e_no 14 [some (aR 13 0), some (aI (nI k))] [] S7 0 0 := by
  intro d
  induction d with
  | zero =>
    intro k hk S7 hd7
    obtain rfl : k = 19 := by omega
    refine e_walk (stops := [36]) 20 ?_
    exact And.intro (fun _ => hp S7 hd7) (fun c => absurd (by decide) c)
  | succ d ih =>
    intro k hk S7 hd7
    refine e_walk (stops := [26]) 20 ?_
    refine And.intro (fun c => absurd c (nI_ge (a := k) (b := 19) (by omega) (by decide))) (fun _ => ?_)
    refine q_X5_countTold (hd7.ok hv) hd7.2.1.2.1 (by omega) ?_
    rw [hd7.2.1.eqv]
    refine e_walk (stops := [30]) 20 ?_
    refine q_X5_mix hd7 (fun S8 hd8 => ?_)
    refine e_walk (stops := [14]) 20 ?_
    show e_Run tb_X5_digest post e_no 14 [some (aR 13 0), some (aI (nI k + 1))] [] S8 0 0
    rw [nI_1]
    exact ih (k + 1) (by omega) S8 hd8
theorem q_dg_2 {post : eQ} {h : Int64} (hv : q_ok0 v np ni) (hp : ∀ S2, q_dg S v sv sn sp tk tx ln S2 (q_fold (q_pg v) (10 * np) h) → e_Run tb_X5_digest post e_no 102 [some (aR 13 0), some (aI (nI (10 * np)))] [] S2 0 0) : ∀ d k, k + d = 10 * np → ∀ S7, q_dg S v sv sn sp tk tx ln S7 (q_fold (q_pg v) k h) → e_Run tb_X5_digest post e_no 38 [some (aR 13 0), some (aI (nI k))] [] S7 0 0 := by
  have hnp := hv.1
  intro d
  induction d with
  | zero =>
    intro k hk S7 hd7
    obtain rfl : k = 10 * np := by omega
    refine e_walk (stops := [48]) 20 ?_
    show e_Run tb_X5_digest post e_no 48 [some (aR 13 0), some (aI (nI (10 * np)))] [aI (nI 10 * mI S7 14 0 0), aI (nI (10 * np))] S7 0 0
    rw [hd7.2.1.eqv, hv.2.2.1, nI_mul]
    refine e_walk (stops := [102]) 20 ?_
    exact And.intro (fun _ => hp S7 hd7) (fun c => absurd (Int32.le_refl _) c)
  | succ d ih =>
    intro k hk S7 hd7
    have hk100 : k < 100 := by omega
    obtain ⟨d1, d2⟩ := q_dm10 k hk100
    refine e_walk (stops := [48]) 20 ?_
    show e_Run tb_X5_digest post e_no 48 [some (aR 13 0), some (aI (nI k))] [aI (nI 10 * mI S7 14 0 0), aI (nI k)] S7 0 0
    rw [hd7.2.1.eqv, hv.2.2.1, nI_mul]
    refine e_walk (stops := [56]) 20 ?_
    refine And.intro (fun c => absurd c (nI_ge (a := k) (b := 10 * np) (by omega) (by omega))) (fun _ => ?_)
    refine And.intro (by decide) ?_
    show e_Run tb_X5_digest post e_no 56 [some (aR 13 0), some (aI (nI k))] [aI (nI k - nI k / 10 * 10), aR 13 0] S7 0 0
    rw [d1]
    have fin : ∀ x, x = q_pg v k → e_Run tb_X5_digest post e_no 93 [some (aR 13 0), some (aI (nI k))] [aL x, aR 13 0] S7 0 0 := by
      intro x hx
      subst hx
      refine e_walk (stops := [96]) 20 ?_
      refine q_X5_mix hd7 (fun S8 hd8 => ?_)
      refine e_walk (stops := [38]) 20 ?_
      show e_Run tb_X5_digest post e_no 38 [some (aR 13 0), some (aI (nI k + 1))] [] S8 0 0
      rw [nI_1]
      exact ih (k + 1) (by omega) S8 hd8
    refine e_walk (stops := [61, 77]) 20 ?_
    refine And.intro (fun c => ?_) (fun c => ?_)
    · have c : ¬ k % 10 < 7 := fun z => nI_ge (a := k % 10) (b := 7) z (by decide) c
      refine e_walk (stops := [89]) 20 ?_
      refine And.intro (by decide) (And.intro (by decide) ?_)
      show e_Run tb_X5_digest post e_no 89 [some (aR 13 0), some (aI (nI k))] [aI (nI k - nI k / 10 * 10 - 7), aI (nI k / 10), aR 13 0, aR 13 0] S7 0 0
      rw [d1, d2, show nI (k % 10) - 7 = nI (k % 10 - 7) from q_sub (b := 7) (by omega)]
      refine e_walk (stops := [92]) 20 ?_
      refine q_X5_reasonOfLesson (p := k / 10) (t := k % 10 - 7) (hd7.ok hv) (by omega) ?_
      rw [hd7.2.1.eqv]
      refine e_walk (stops := [93]) 20 ?_
      exact fin _ (by unfold q_pg; rw [if_neg c])
    · have c : k % 10 < 7 := Nat.lt_of_not_le (fun z => c (nI_le (a := 7) z (by omega)))
      refine e_walk (stops := [70]) 20 ?_
      refine And.intro (by decide) (And.intro (by decide) ?_)
      show e_Run tb_X5_digest post e_no 70 [some (aR 13 0), some (aI (nI k))] [aI (nI k - nI k / 10 * 10), aI (nI k / 10), aR 13 0, aR 13 0] S7 0 0
      rw [d1, d2]
      refine e_walk (stops := [73]) 20 ?_
      refine q_X5_pupilTold (p := k / 10) (w := k % 10) (by omega) c ?_
      rw [hd7.2.1.eqv]
      refine e_walk (stops := [93]) 20 ?_
      exact fin _ (by unfold q_pg; rw [if_pos c])
theorem q_dg_3 {post : eQ} {h : Int64} (hv : q_ok0 v np ni) (hp : ∀ S2, q_dg S v sv sn sp tk tx ln S2 (q_fold (fun k => (q_iTold v (k / 6) (k % 6)).toInt64) (6 * ni) h) → e_Run tb_X5_digest post e_no 140 [some (aR 13 0), some (aI (nI (6 * ni)))] [] S2 0 0) : ∀ d k, k + d = 6 * ni → ∀ S7, q_dg S v sv sn sp tk tx ln S7 (q_fold (fun k => (q_iTold v (k / 6) (k % 6)).toInt64) k h) → e_Run tb_X5_digest post e_no 104 [some (aR 13 0), some (aI (nI k))] [] S7 0 0 := by
  have hni := hv.2.1
  intro d
  induction d with
  | zero =>
    intro k hk S7 hd7
    obtain rfl : k = 6 * ni := by omega
    refine e_walk (stops := [114]) 20 ?_
    show e_Run tb_X5_digest post e_no 114 [some (aR 13 0), some (aI (nI (6 * ni)))] [aI (nI 6 * mI S7 14 0 1), aI (nI (6 * ni))] S7 0 0
    rw [hd7.2.1.eqv, hv.2.2.2.1, nI_mul]
    refine e_walk (stops := [140]) 20 ?_
    exact And.intro (fun _ => hp S7 hd7) (fun c => absurd (Int32.le_refl _) c)
  | succ d ih =>
    intro k hk S7 hd7
    obtain ⟨d1, d2⟩ := q_dm6 k (by omega)
    refine e_walk (stops := [114]) 20 ?_
    show e_Run tb_X5_digest post e_no 114 [some (aR 13 0), some (aI (nI k))] [aI (nI 6 * mI S7 14 0 1), aI (nI k)] S7 0 0
    rw [hd7.2.1.eqv, hv.2.2.2.1, nI_mul]
    refine e_walk (stops := [127]) 20 ?_
    refine And.intro (fun c => absurd c (nI_ge (a := k) (b := 6 * ni) (by omega) (by omega))) (fun _ => ?_)
    refine And.intro (by decide) (And.intro (by decide) ?_)
    show e_Run tb_X5_digest post e_no 127 [some (aR 13 0), some (aI (nI k))] [aI (nI k - nI k / 6 * 6), aI (nI k / 6), aR 13 0, aR 13 0] S7 0 0
    rw [d1, d2]
    refine e_walk (stops := [130]) 20 ?_
    refine q_X5_instrumentTold (i := k / 6) (w := k % 6) (by omega) (by omega) ?_
    rw [hd7.2.1.eqv]
    refine e_walk (stops := [134]) 20 ?_
    refine q_X5_mix hd7 (fun S8 hd8 => ?_)
    refine e_walk (stops := [104]) 20 ?_
    show e_Run tb_X5_digest post e_no 104 [some (aR 13 0), some (aI (nI k + 1))] [] S8 0 0
    rw [nI_1]
    exact ih (k + 1) (by omega) S8 hd8
theorem q_dg_4 {post : eQ} {h : Int64} (hi : q_inv B v np ni nl) (hp : ∀ S2, q_dg S v sv sn sp tk tx ln S2 (q_fold (fun k => (q_lTold v k).toInt64) nl h) → e_Run tb_X5_digest post e_no 168 [some (aR 13 0), some (aI (nI nl))] [] S2 0 0) : ∀ d k, k + d = nl → ∀ S7, q_dg S v sv sn sp tk tx ln S7 (q_fold (fun k => (q_lTold v k).toInt64) k h) → e_Run tb_X5_digest post e_no 142 [some (aR 13 0), some (aI (nI k))] [] S7 0 0 := by
  have hnl := hi.1.2.2.1
  have hni := hi.1.2.1
  have h2 := hi.1.2.2.2.2.2
  intro d
  induction d with
  | zero =>
    intro k hk S7 hd7
    obtain rfl : k = nl := by omega
    refine e_walk (stops := [149]) 20 ?_
    show e_Run tb_X5_digest post e_no 149 [some (aR 13 0), some (aI (nI k))] [aI (mI S7 14 0 2), aI (nI k)] S7 0 0
    rw [hd7.2.1.eqv, h2]
    refine e_walk (stops := [168]) 20 ?_
    exact And.intro (fun _ => hp S7 hd7) (fun c => absurd (Int32.le_refl _) c)
  | succ d ih =>
    intro k hk S7 hd7
    refine e_walk (stops := [149]) 20 ?_
    show e_Run tb_X5_digest post e_no 149 [some (aR 13 0), some (aI (nI k))] [aI (mI S7 14 0 2), aI (nI k)] S7 0 0
    rw [hd7.2.1.eqv, h2]
    refine e_walk (stops := [158]) 20 ?_
    refine And.intro (fun c => absurd c (nI_ge (a := k) (b := nl) (by omega) (by omega))) (fun _ => ?_)
    refine q_X5_loanTold (nl := nl) (by omega) hnl (by rw [hd7.2.1.eqv]; exact h2) (fun k q => ?_) ?_
    · obtain ⟨i3, a, b, c⟩ := hi.2.2.2.1.1 k q
      exact ⟨i3, by omega, by rw [hd7.2.1.eqv]; exact b⟩
    rw [hd7.2.1.eqv]
    refine e_walk (stops := [162]) 20 ?_
    refine q_X5_mix hd7 (fun S8 hd8 => ?_)
    refine e_walk (stops := [142]) 20 ?_
    show e_Run tb_X5_digest post e_no 142 [some (aR 13 0), some (aI (nI k + 1))] [] S8 0 0
    rw [nI_1]
    exact ih (k + 1) (by omega) S8 hd8
theorem q_dg_6 {post : eQ} {h : Int64} (hp : ∀ S2, q_dg S v sv sn sp tk tx ln S2 (q_fold (fun k => (tx k).toInt64) ln h) → post (some (aL (q_fold (fun k => (tx k).toInt64) ln h))) S2) : ∀ d k, k + d = ln → ∀ S7, q_dg S v sv sn sp tk tx ln S7 (q_fold (fun k => (tx k).toInt64) k h) → e_Run tb_X5_digest post e_no 217 [some (aR 13 0), some (aI (nI k))] [] S7 0 0 := by
  intro d
  induction d with
  | zero =>
    intro k hk S7 hd7
    obtain rfl : k = ln := by omega
    refine e_walk (stops := [222]) 20 ?_
    show e_Run tb_X5_digest post e_no 222 [some (aR 13 0), some (aI (nI k))] [aI (mI S7 13 0 7), aI (nI k)] S7 0 0
    rw [hd7.2.1.2.2.2.2.2.1]
    refine e_walk (stops := []) 20 ?_
    refine And.intro (fun _ => ?_) (fun c => absurd (Int32.le_refl _) c)
    have hx := hp S7 hd7
    rw [← hd7.2.2] at hx
    exact hx
  | succ d ih =>
    intro k hk S7 hd7
    have h60 := hd7.2.1.1.2.2
    refine e_walk (stops := [222]) 20 ?_
    show e_Run tb_X5_digest post e_no 222 [some (aR 13 0), some (aI (nI k))] [aI (mI S7 13 0 7), aI (nI k)] S7 0 0
    rw [hd7.2.1.2.2.2.2.2.1]
    refine e_walk (stops := [232]) 20 ?_
    refine And.intro (fun c => absurd c (nI_ge (a := k) (b := ln) (by omega) (by omega))) (fun _ => ?_)
    refine And.intro (q_in (n := k) rfl (show k < 60 by omega) (by decide)) ?_
    show e_Run tb_X5_digest post e_no 232 [some (aR 13 0), some (aI (nI k))] [aI (mI S7 14 4 (nI k).toNatClampNeg), aR 13 0] S7 0 0
    rw [nI_clamp (by omega), hd7.2.1.2.2.2.2.2.2 k (by omega)]
    refine e_walk (stops := [236]) 20 ?_
    refine q_X5_mix hd7 (fun S8 hd8 => ?_)
    refine e_walk (stops := [217]) 20 ?_
    show e_Run tb_X5_digest post e_no 217 [some (aR 13 0), some (aI (nI k + 1))] [] S8 0 0
    rw [nI_1]
    exact ih (k + 1) (by omega) S8 hd8
theorem q_dgs_1 {post : eQ} (hv : q_ok0 v np ni) (hd : q_dg S v sv sn sp tk tx ln S1 3733) (hp : ∀ S2, q_dg S v sv sn sp tk tx ln S2 (q_fold (fun w => (q_cTold v np sn w).toInt64) 19 3733) → e_Run tb_X5_digest post e_no 36 [some (aR 13 0), some (aI 19)] [] S2 0 0) : e_Run tb_X5_digest post e_no 14 [some (aR 13 0), some (aI 0)] [] S1 0 0 := q_dg_1 hv hp 19 0 rfl S1 (by rw [q_fold]; exact hd)
theorem q_dgs_2 {post : eQ} {h : Int64} (hv : q_ok0 v np ni) (hd : q_dg S v sv sn sp tk tx ln S1 h) (hp : ∀ S2, q_dg S v sv sn sp tk tx ln S2 (q_fold (q_pg v) (10 * np) h) → e_Run tb_X5_digest post e_no 102 [some (aR 13 0), some (aI (nI (10 * np)))] [] S2 0 0) : e_Run tb_X5_digest post e_no 38 [some (aR 13 0), some (aI 0)] [] S1 0 0 := q_dg_2 hv hp (10 * np) 0 (by omega) S1 (by rw [q_fold]; exact hd)
theorem q_dgs_3 {post : eQ} {h : Int64} (hv : q_ok0 v np ni) (hd : q_dg S v sv sn sp tk tx ln S1 h) (hp : ∀ S2, q_dg S v sv sn sp tk tx ln S2 (q_fold (fun k => (q_iTold v (k / 6) (k % 6)).toInt64) (6 * ni) h) → e_Run tb_X5_digest post e_no 140 [some (aR 13 0), some (aI (nI (6 * ni)))] [] S2 0 0) : e_Run tb_X5_digest post e_no 104 [some (aR 13 0), some (aI 0)] [] S1 0 0 := q_dg_3 hv hp (6 * ni) 0 (by omega) S1 (by rw [q_fold]; exact hd)
theorem q_dgs_4 {post : eQ} {h : Int64} (hi : q_inv B v np ni nl) (hd : q_dg S v sv sn sp tk tx ln S1 h) (hp : ∀ S2, q_dg S v sv sn sp tk tx ln S2 (q_fold (fun k => (q_lTold v k).toInt64) nl h) → e_Run tb_X5_digest post e_no 168 [some (aR 13 0), some (aI (nI nl))] [] S2 0 0) : e_Run tb_X5_digest post e_no 142 [some (aR 13 0), some (aI 0)] [] S1 0 0 := q_dg_4 hi hp nl 0 (by omega) S1 (by rw [q_fold]; exact hd)
theorem q_dgs_6 {post : eQ} {h : Int64} (hd : q_dg S v sv sn sp tk tx ln S1 h) (hp : ∀ S2, q_dg S v sv sn sp tk tx ln S2 (q_fold (fun k => (tx k).toInt64) ln h) → post (some (aL (q_fold (fun k => (tx k).toInt64) ln h))) S2) : e_Run tb_X5_digest post e_no 217 [some (aR 13 0), some (aI 0)] [] S1 0 0 := q_dg_6 hp ln 0 (by omega) S1 (by rw [q_fold]; exact hd)
theorem q_X5_digest {post : eQ} {mm ss : Nat} (hM : q_M S v sv sn sp tk tx ln) (hi : q_inv B v np ni nl) (h6 : v 6 = nI mm) (h7 : v 7 = nI ss) (hs : ss ≤ 4 * mm) (hm : 4 * mm < 2 ^ 20) (h : ∀ S2, q_fm S S2 → q_M S2 v sv sn sp tk tx ln → mI S2 13 0 8 = 0 → post (some (aL (q_dig v np ni nl sn mm ss tx ln))) S2) : w_X5_digest [aR 13 0] S post := by
  have hv := hi.ok0
  unfold q_dig at h
  generalize e1 : q_fold (fun w => (q_cTold v np sn w).toInt64) 19 3733 = H1 at h
  generalize e2 : q_fold (q_pg v) (10 * np) H1 = H2 at h
  generalize e3 : q_fold (fun k => (q_iTold v (k / 6) (k % 6)).toInt64) (6 * ni) H2 = H3 at h
  generalize e4 : q_fold (fun k => (q_lTold v k).toInt64) nl H3 = H4 at h
  generalize e5 : q_hm v 0 np H4 = H5 at h
  generalize e6 : q_hm v 1 np H5 = H6 at h
  generalize e7 : q_hm v 2 np H6 = H7 at h
  generalize e8 : q_hm v 3 np H7 = H8 at h
  generalize e9 : q_mx H8 (nI (q_bs v np 4)).toInt64 = H9 at h
  generalize e10 : q_mx H9 (q_bits (q_shr mm ss)) = H10 at h
  generalize e11 : q_mx H10 (nI ln).toInt64 = H11 at h
  have m1 : q_M (sL (sI S 13 0 8 0) 13 0 15 3733) v sv sn sp tk tx ln := hM.fld (j := 8) (x := 0) (by decide) (by decide) (by decide)
  have d1 : q_dg S v sv sn sp tk tx ln (sL (sI S 13 0 8 0) 13 0 15 3733) 3733 := ⟨⟨(q_fm.fld (j := 8) (x := 0)).trans ⟨fun _ _ _ _ => rfl, rfl, fun k i hk => e_u3_ne (fun z => hk (congrArg Prod.fst z))⟩, by show mI (sI S 13 0 8 0) 13 0 8 = 0; rw [q_sI, if_pos rfl]⟩, m1, by show e_u3 (mL S) 13 0 15 3733 13 0 15 = 3733; exact e_u3_eq⟩
  refine e_walk (stops := [14]) 20 ?_
  refine q_dgs_1 hv d1 (fun S2 d2 => ?_)
  rw [e1] at d2
  refine e_walk (stops := [38]) 20 ?_
  refine q_dgs_2 hv d2 (fun S3 d3 => ?_)
  rw [e2] at d3
  refine e_walk (stops := [104]) 20 ?_
  refine q_dgs_3 hv d3 (fun S4 d4 => ?_)
  rw [e3] at d4
  refine e_walk (stops := [142]) 20 ?_
  refine q_dgs_4 hi d4 (fun S5 d5 => ?_)
  rw [e4] at d5
  refine e_walk (stops := [180]) 20 ?_
  refine And.intro (fun c => absurd c (by decide)) (fun _ => ?_)
  refine q_X5_mixMarch (m := 0) d5 hv (by decide) (fun S6 d6 => ?_)
  rw [e5] at d6
  refine e_walk (stops := [180]) 20 ?_
  refine And.intro (fun c => absurd c (by decide)) (fun _ => ?_)
  refine q_X5_mixMarch (m := 1) d6 hv (by decide) (fun S7 d7 => ?_)
  rw [e6] at d7
  refine e_walk (stops := [180]) 20 ?_
  refine And.intro (fun c => absurd c (by decide)) (fun _ => ?_)
  refine q_X5_mixMarch (m := 2) d7 hv (by decide) (fun S8 d8 => ?_)
  rw [e7] at d8
  refine e_walk (stops := [180]) 20 ?_
  refine And.intro (fun c => absurd c (by decide)) (fun _ => ?_)
  refine q_X5_mixMarch (m := 3) d8 hv (by decide) (fun S9 d9 => ?_)
  rw [e8] at d9
  refine e_walk (stops := [191]) 20 ?_
  refine And.intro (fun _ => ?_) (fun c => absurd (by decide) c)
  refine q_X5_bestTold (d9.ok hv) (fun S10 f10 => ?_)
  rw [d9.2.1.eqv]
  have d10 := d9.of5 f10
  refine e_walk (stops := [195]) 20 ?_
  refine q_X5_mix d10 (fun S11 d11 => ?_)
  rw [e9] at d11
  refine e_walk (stops := [200]) 20 ?_
  refine q_X5_shareTold (by rw [d11.2.1.eqv]; exact h6) (by rw [d11.2.1.eqv]; exact h7) hs hm ?_
  refine e_walk (stops := [203]) 20 ?_
  refine q_X5_bitsOf (q_shr_is hm) ?_
  refine e_walk (stops := [206]) 20 ?_
  refine q_X5_mix d11 (fun S12 d12 => ?_)
  rw [e10] at d12
  refine e_walk (stops := [211]) 20 ?_
  show e_Run tb_X5_digest post e_no 211 [some (aR 13 0), some (aI 4)] [aI (mI S12 13 0 7), aR 13 0] S12 0 0
  rw [d12.2.1.2.2.2.2.2.1]
  refine e_walk (stops := [215]) 20 ?_
  refine q_X5_mix d12 (fun S13 d13 => ?_)
  rw [e11] at d13
  refine e_walk (stops := [217]) 20 ?_
  exact q_dgs_6 d13 (fun S14 d14 => h S14 d14.1.1 d14.2.1 d14.1.2)
end Dig
