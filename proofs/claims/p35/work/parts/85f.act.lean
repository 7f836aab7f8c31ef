/-! The law: acts. Own work (wip/p35/laws). -/
section LawAct
variable {S S1 S2 : eM} {post : eQ} {v v2 : qV} {n np ni nl p t s : Nat} {d : z_D} {x y : Int32}
/-- days since the start -/
def z_day (n : Nat) (v : qV) : Prop := ∃ D, v 3 = nI D ∧ D ≤ 30 * n
def z_A (n : Nat) (v : qV) (np ni nl : Nat) : Prop := q_inv n v np ni nl ∧ z_ok n v np ni nl ∧ z_day n v
/-- behind an act -/
def z_fin (n : Nat) (post : eQ) : Prop := ∀ (S2 : eM) (v2 : qV) (d2 : z_D) (np2 ni2 nl2 : Nat), z_Y (n + 1) S2 v2 d2 → z_A (n + 1) v2 np2 ni2 nl2 → post (some (aI 1)) S2
theorem z_day.cg (h : z_day n v) (e : v2 3 = v 3) : z_day (n + 1) v2 := h.imp fun D z => ⟨e.trans z.1, by omega⟩
theorem z_fin.go (h : z_fin n post) (hY : z_Y n S v2 d) (hi : q_inv n v2 np ni nl) (hz : z_ok n v2 np ni nl) (hd : z_day n v) (e : v2 3 = v 3) : post (some (aI 1)) S := h S v2 d np ni nl (hY.mono (Nat.le_succ n)) ⟨hi.mono (Nat.le_succ n), hz.mono (Nat.le_succ n), hd.cg e⟩
abbrev z_lc (x y : Int32) (np ni p t s : Nat) (l : List (Option eV)) : List (Option eV) := some (aR 0 0) :: some (aI x) :: some (aI y) :: some (aI (nI np)) :: some (aI (nI ni)) :: some (aI (nI p)) :: some (aI (nI t)) :: some (aI (nI s)) :: l
abbrev z_n7 : List (Option eV) := [none, none, none, none, none, none, none]
theorem z_deb : ∀ k, q_deb v k = z_sm (fun p => q_of v p 3) k
  | 0 => rfl
  | k + 1 => by
    show q_deb v k + q_of v k 3 = _
    rw [z_deb k]; rfl
theorem z_deb_up (hp : p < np) (e : ∀ k, k < np → k ≠ p → q_of v2 k 3 = q_of v k 3) : q_deb v2 np = q_deb v np + (q_of v2 p 3 - q_of v p 3) := by
  rw [z_deb, z_deb]
  exact z_sm_up (f := fun p => q_of v p 3) (g := fun p => q_of v2 p 3) np hp e
theorem z_x4 (D a b : Int32) : D + (a - b - a) = D - b := by
  rw [show a - b - a = -b by rw [Int32.sub_eq_add_neg a b, Int32.add_comm a, Int32.sub_eq_add_neg, Int32.add_assoc, ← Int32.sub_eq_add_neg a, Int32.sub_self, Int32.add_zero], ← Int32.sub_eq_add_neg]
-- the same calls, where the argument is a sum
theorem k_pupil {a : Nat} {x : Int32} (hx : x = nI a) (hY : z_Y n S v d) (hi : q_inv n v np ni nl) (hn : np < 10) (ha : 5 ≤ a) (hb : a ≤ 30) (h : ∀ S2, z_Y n S2 (q_pupil v np (nI a)) (z_nx d v) → post (some (aI (nI np))) S2) : nw_X4_pupil [aR 0 0, aI x] S post := by
  rw [hx]; exact l_pupil hY hi hn ha hb h
theorem k_count {w : Nat} {x r : Int32} (hx : x = nI w) (hY : z_Y n S v d) (hi : q_inv n v np ni nl) (hw : w < 19) (e : q_cTold v np d.2.1 w = r) (h : ∀ S2, z_Y n S2 v d → post (some (aI r)) S2) : nw_X4_count [aR 0 0, aI x] S post := by
  rw [hx]; exact m_count hY hi hw e h
theorem k_dent {i t : Nat} {x r : Int32} (hY : z_Y n S v d) (hi : q_inv n v np ni nl) (ii : i < ni) (h1 : 1 ≤ t) (h9 : t ≤ 9) (hx : x = nI t) (e : q_dn v i (nI t) = r) (h : ∀ S2, z_Y n S2 (q_dents v i (nI t)) (z_nx d v) → post (some (aI r)) S2) : nw_X4_dent [aR 0 0, aI (nI i), aI x] S post := by
  rw [hx]; exact l_dent hY hi ii h1 h9 (by rw [e]; exact h)
theorem k_pay {p a : Nat} {x r : Int32} (hY : z_Y n S v d) (hi : q_inv n v np ni nl) (hp : p < np) (h1 : 1 ≤ a) (h9 : a ≤ 999) (hx : x = nI a) (e : q_pays v p (nI a) = r) (h : ∀ S2, z_Y n S2 (q_pay v p (nI a)) (z_nx d v) → post (some (aI r)) S2) : nw_X4_pay [aR 0 0, aI (nI p), aI x] S post := by
  rw [hx]; exact l_pay hY hi hp h1 h9 (by rw [e]; exact h)
/-- a pupil comes, from 65 on -/
theorem A_pupil (hY : z_Y n S v d) (hA : z_A n v np ni nl) (h : z_fin n post) (bc bs : Nat) (hb : 30 ≤ bc) (hs : 180 ≤ bs) : e_Run tb_L_act post e_no 65 (z_lc x y np ni p t s z_n7) [] S bc bs := by
  obtain ⟨hi, hz, hD⟩ := hA
  have hnp := hi.1.1
  by_cases c : np = 10
  · refine e_walkS mm_L_act_1 (stops := []) 60 ?_
    refine And.intro (fun _ => ?_) (fun z => absurd ((by rw [c]; rfl)) z)
    exact h.go hY hi hz hD rfl
  · have hn : np < 10 := by omega
    have hr := z_low_lt (x := y) (k := 26) (by decide)
    have hi2 := q_inv_pupil (a := 5 + z_low y 26) hi hn (by omega) (by omega)
    have hz2 := z_ok_pupil (x := nI (5 + z_low y 26)) hz hn hi.2.2.2.2.1.1
    have e2 : q_of (q_pupil v np (nI (5 + z_low y 26))) np 2 = 1 := by rw [q_of, q_pupil, q_un (by omega), q_ue]
    have e1 : q_of (q_pupil v np (nI (5 + z_low y 26))) np 1 = nI (5 + z_low y 26) := by rw [q_of, q_pupil, q_un (by omega), q_un (by omega), q_ue]
    have e0 : q_of (q_pupil v np (nI (5 + z_low y 26))) np 0 = nI (5 + z_low y 26) := by rw [q_of, q_pupil, q_un (by omega), q_un (by omega), q_un (by omega), Nat.add_zero, q_ue]
    have e3 : q_pupil v np (nI (5 + z_low y 26)) 3 = v 3 := by rw [q_pupil, q_un (by omega), q_un (by omega), q_un (by omega), q_un (by omega)]
    refine e_walkS mm_L_act_1 (stops := [79]) 60 ?_
    refine And.intro (fun z => absurd z ((fun z => c ((nI_eq (by omega) (by decide)).mp z)))) (fun _ => ?_)
    refine L_low (k := 26) (by decide) (by decide) ?_
    refine e_walkS mm_L_act_1 (stops := [83]) 60 ?_
    refine And.intro (by omega) (And.intro (by omega) ?_)
    refine k_pupil (a := 5 + z_low y 26) (nI_add 5 _) hY hi hn (by omega) (by omega) (fun S2 hY => ?_)
    refine e_walkS mm_L_act_1 (stops := [93]) 60 ?_
    refine And.intro (fun _ => ?_) (fun z => absurd (rfl) z)
    refine And.intro (by omega) (And.intro (by omega) ?_)
    refine m_pupilOf (p := np) (w := 2) (r := 1) hY hi2 (by omega) (by decide) (p_2.trans e2) (fun S3 hY => ?_)
    refine e_walkS mm_L_act_1 (stops := [103]) 60 ?_
    refine And.intro (fun _ => ?_) (fun z => absurd (rfl) z)
    refine And.intro (by omega) (And.intro (by omega) ?_)
    refine m_pupilOf (p := np) (w := 1) (r := nI (5 + z_low y 26)) hY hi2 (by omega) (by decide) (p_1.trans e1) (fun S4 hY => ?_)
    refine e_walkS mm_L_act_1 (stops := [109]) 60 ?_
    refine And.intro (by omega) (And.intro (by omega) ?_)
    refine m_pupilOf (p := np) (w := 0) (r := nI (5 + z_low y 26)) hY hi2 (by omega) (by decide) (p_0.trans e0) (fun S5 hY => ?_)
    refine e_walkS mm_L_act_1 (stops := []) 60 ?_
    exact And.intro (fun _ => h.go hY hi2 hz2 hD e3) (fun z => absurd rfl z)
/-- an instrument is got, from 129 on -/
theorem A_inst (hY : z_Y n S v d) (hA : z_A n v np ni nl) (h : z_fin n post) (bc bs : Nat) (hb : 30 ≤ bc) (hs : 180 ≤ bs) : e_Run tb_L_act post e_no 129 (z_lc x y np ni p t s z_n7) [] S bc bs := by
  obtain ⟨hi, hz, hD⟩ := hA
  have hni := hi.1.2.1
  by_cases c : ni = 10
  · refine e_walkS mm_L_act_2 (stops := []) 60 ?_
    refine And.intro (fun _ => ?_) (fun z => absurd ((by rw [c]; rfl)) z)
    exact h.go hY hi hz hD rfl
  · have hn : ni < 10 := by omega
    have fin : ∀ (k : Nat) (S : eM), k < 4 → z_Y n S v d → ∀ bc bs, 20 ≤ bc → 120 ≤ bs → e_Run tb_L_act post e_no 156 (z_lc x y np ni p t s z_n7) [aI (nI k), aR 0 0] S bc bs := by
      intro k S hk hY bc bs hb hs
      have hi2 := q_inv_inst hi hn hk
      have hz2 := z_ok_inst (x := nI k) hz hi.1.1 hn hi.2.2.2.2.1.2
      have e3 : q_inst v ni (nI k) 3 = v 3 := by rw [q_inst, q_un (by omega), q_un (by omega)]
      have e2 : q_its (q_inst v ni (nI k)) ni 2 - 1 = -1 := by
        rw [q_its, q_inst, q_un (by omega), q_un (by omega), hi.2.2.2.2.1.2 _ (by omega) (by omega)]; rfl
      refine e_walkS mm_L_act_2 (stops := [159]) 60 ?_
      refine And.intro (by omega) (And.intro (by omega) ?_)
      refine l_instrument hY hi hn hk (fun S2 hY => ?_)
      refine e_walkS mm_L_act_2 (stops := [171]) 60 ?_
      refine And.intro (fun _ => ?_) (fun z => absurd (rfl) z)
      refine And.intro (by omega) (And.intro (by omega) ?_)
      refine m_instrumentOf (i := ni) (w := 2) (r := -1) hY hi2 (by omega) (by decide) (i_2.trans e2) (fun S3 hY => ?_)
      refine e_walkS mm_L_act_2 (stops := []) 60 ?_
      exact And.intro (fun _ => h.go hY hi2 hz2 hD e3) (fun z => absurd rfl z)
    refine e_walkS mm_L_act_2 (stops := [145]) 60 ?_
    refine And.intro (fun z => absurd z ((fun z => c ((nI_eq (by omega) (by decide)).mp z)))) (fun _ => ?_)
    refine L_low (k := 2) (by decide) (by decide) ?_
    have h2 := z_low_lt (x := y >>> ((4 : Int32) &&& 31)) (k := 2) (by decide)
    rcases (show z_low (y >>> ((4 : Int32) &&& 31)) 2 = 0 ∨ z_low (y >>> ((4 : Int32) &&& 31)) 2 = 1 by omega) with c0 | c0
    · have hr := z_low_lt (x := y) (k := 4) (by decide)
      refine e_walkS mm_L_act_2 (stops := [156]) 60 ?_
      refine And.intro (fun _ => ?_) (fun z => absurd ((by show nI (z_low (y >>> ((4 : Int32) &&& 31)) 2) = 0; rw [c0]; rfl)) z)
      refine L_low (k := 4) (by decide) (by decide) ?_
      exact fin _ S hr hY _ _ (by omega) (by omega)
    · have hr := z_low_lt (x := y) (k := 2) (by decide)
      refine e_walkS mm_L_act_2 (stops := [156]) 60 ?_
      refine And.intro (fun z => absurd z ((by show ¬ nI (z_low (y >>> ((4 : Int32) &&& 31)) 2) = 0; rw [c0]; decide))) (fun _ => ?_)
      refine L_low (k := 2) (by decide) (by decide) ?_
      exact fin _ S (by omega) hY _ _ (by omega) (by omega)
set_option maxHeartbeats 8000000 in
/-- a loan, from 181 on -/
theorem A_lend (hY : z_Y n S v d) (hA : z_A n v np ni nl) (h : z_fin n post) (hp : p < np) (ht : t < ni) (s8 : s < 8) (bc bs : Nat) (hb : 30 ≤ bc) (hs : 180 ≤ bs) : e_Run tb_L_act post e_no 181 (z_lc x y np ni p t s z_n7) [] S bc bs := by
  obtain ⟨hi, hz, hD⟩ := hA
  have hnp := hi.1.1
  have hni := hi.1.2.1
  have hnl := hi.1.2.2.1
  have hw5 := q_whyLoan_le v t p
  refine e_walkS mm_L_act_3 (stops := [196]) 60 ?_
  refine And.intro (fun z => absurd z (nI_ge (b := 8) s8 (by decide))) (fun _ => ?_)
  refine And.intro (by omega) (And.intro (by omega) ?_)
  refine m_noLoan hY hi ht hp rfl (fun S1 hY => ?_)
  refine e_walkS mm_L_act_3 (stops := [203]) 60 ?_
  refine And.intro (by omega) (And.intro (by omega) ?_)
  refine m_count (w := 2) (r := nI nl) hY hi (by decide) hi.1.2.2.2.2.2 (fun S2 hY => ?_)
  refine e_walkS mm_L_act_3 (stops := [213]) 60 ?_
  refine And.intro (by omega) (And.intro (by omega) ?_)
  refine l_tryLend hY hi ht hp (fun w S3 hY => ?_) (fun w => ?_)
  · obtain ⟨hl, hi2⟩ := q_inv_lend hi ht hp w
    have hz2 := z_ok_lend hz hnp hni ht hp (q_whyLoan_0 w).1
    have g4 : q_of (q_lend v nl t p) p 4 = nI (t + 1) := by unfold q_lend; rw [q_of, q_un (by omega), q_un (by omega), q_ue]
    have g3 : q_lend v nl t p 3 = v 3 := by unfold q_lend; rw [q_un (by omega), q_un (by omega), q_un (by omega), q_un (by omega), q_un (by omega)]
    have gl : q_lend v nl t p (136 + nl) = nI t := by unfold q_lend; rw [q_un (by omega), q_ue]
    have i2 : q_its (q_lend v nl t p) t 2 = nI (p + 1) := by unfold q_lend; rw [q_its, q_un (by omega), q_un (by omega), q_un (by omega), q_un (by omega), q_ue]
    have i4 : q_its (q_lend v nl t p) t 4 = 0 := by unfold q_lend; rw [q_its, q_un (by omega), q_un (by omega), q_un (by omega), q_ue]
    have hloan : q_lTold (q_lend v nl t p) nl = nI (10 * t + p) := by
      obtain ⟨i, p2, k1, k2, k3, k4, k5⟩ := z_loan (k := nl) hi2 (Nat.lt_succ_self _)
      obtain rfl : i = t := (nI_eq (by omega) (by omega)).mp (k3.symm.trans gl)
      have : p2 + 1 = p + 1 := (nI_eq (by omega) (by omega)).mp (k4.symm.trans i2)
      rw [k5, show p2 = p by omega]
    have hne : ¬ nI (p + 1) = 0 := nI_ne0 (by omega) (by omega)
    refine e_walkS mm_L_act_3 (stops := [262]) 60 ?_
    refine And.intro (fun _ => ?_) (fun z => absurd ((by rw [w]; decide)) z)
    refine And.intro (fun _ => ?_) (fun z => absurd ((nI_1 nl).symm) z)
    refine And.intro (by omega) (And.intro (by omega) ?_)
    refine m_pupilOf (w := 4) (r := nI t) hY hi2 hp (by decide) (p_4.trans (by rw [g4]; exact nI_pred t)) (fun S4 hY => ?_)
    refine e_walkS mm_L_act_3 (stops := [273]) 60 ?_
    refine And.intro (fun _ => ?_) (fun z => absurd (rfl) z)
    refine And.intro (by omega) (And.intro (by omega) ?_)
    refine m_loan (k := nl) (r := nI (10 * t + p)) hY hi2 (by omega) hloan (fun S5 hY => ?_)
    refine e_walkS mm_L_act_3 (stops := [291]) 60 ?_
    refine And.intro (fun _ => ?_) (fun z => absurd ((by show nI (10 * t + p) = nI 10 * nI t + nI p; rw [nI_mul, nI_add])) z)
    refine And.intro (by omega) (And.intro (by omega) ?_)
    refine m_instrumentOf (w := 4) (r := 0) hY hi2 ht (by decide) (i_4.trans (by rw [i2, if_neg hne]; exact i4)) (fun S6 hY => ?_)
    refine e_walkS mm_L_act_3 (stops := []) 60 ?_
    exact And.intro (fun _ => h.go hY hi2 hz2 hD g3) (fun z => absurd rfl z)
  · refine e_walkS mm_L_act_3 (stops := [233]) 60 ?_
    refine And.intro (fun z => absurd z (nI_nle w (by omega))) (fun _ => ?_)
    refine And.intro (fun _ => ?_) (fun z => absurd (rfl) z)
    refine And.intro (by omega) (And.intro (by omega) ?_)
    refine m_count (w := 2) (r := nI nl) hY hi (by decide) hi.1.2.2.2.2.2 (fun S3 hY => ?_)
    refine e_walkS mm_L_act_3 (stops := []) 60 ?_
    exact And.intro (fun _ => h.go hY hi hz hD rfl) (fun z => absurd rfl z)
set_option maxHeartbeats 8000000 in
/-- an instrument is brought back, from 300 on -/
theorem A_back (hY : z_Y n S v d) (hA : z_A n v np ni nl) (hn : n ≤ 1000) (h : z_fin n post) (ht : t < ni) (bc bs : Nat) (hb : 30 ≤ bc) (hs : 180 ≤ bs) : e_Run tb_L_act post e_no 300 (z_lc x y np ni p t 8 z_n7) [] S bc bs := by
  obtain ⟨hi, hz, hD⟩ := hA
  have hnp := hi.1.1
  have hni := hi.1.2.1
  obtain ⟨a2, cc, l2, ⟨k1, k4, k2⟩, k5, k6, k7, k8⟩ := hz.2.1 t ht
  rcases Nat.eq_zero_or_pos l2 with c | c
  · have e2 : q_its v t 2 = 0 := by rw [k2, c]; rfl
    refine e_walkS mm_L_act_4 (stops := [313]) 60 ?_
    refine And.intro (fun _ => ?_) (fun z => absurd (rfl) z)
    refine And.intro (by omega) (And.intro (by omega) ?_)
    refine m_count (w := 14) (r := q_deb v np) hY hi (by decide) rfl (fun S1 hY => ?_)
    refine e_walkS mm_L_act_4 (stops := [322]) 60 ?_
    refine And.intro (by omega) (And.intro (by omega) ?_)
    refine m_instrumentOf (w := 4) (r := -1) hY hi ht (by decide) (show (if q_its v t 2 = 0 then (-1 : Int32) else q_its v t 4) = -1 by rw [if_pos e2]) (fun S2 hY => ?_)
    refine e_walkS mm_L_act_4 (stops := [330]) 60 ?_
    refine And.intro (by omega) (And.intro (by omega) ?_)
    refine l_tryBack hY hi ht (fun p2 _ w S3 hY => ?_) (fun w => ?_)
    · exact absurd (w.symm.trans e2) (nI_ne0 (by omega) (by omega))
    · refine e_walkS mm_L_act_4 (stops := []) 60 ?_
      refine And.intro (fun z => absurd z (by decide)) (fun _ => ?_)
      exact And.intro (fun _ => h.go hY hi hz hD rfl) (fun z => absurd rfl z)
  · have hne : ¬ q_its v t 2 = 0 := by rw [k2]; exact nI_ne0 (by omega) (by omega)
    refine e_walkS mm_L_act_4 (stops := [313]) 60 ?_
    refine And.intro (fun _ => ?_) (fun z => absurd (rfl) z)
    refine And.intro (by omega) (And.intro (by omega) ?_)
    refine m_count (w := 14) (r := q_deb v np) hY hi (by decide) rfl (fun S1 hY => ?_)
    refine e_walkS mm_L_act_4 (stops := [322]) 60 ?_
    refine And.intro (by omega) (And.intro (by omega) ?_)
    refine m_instrumentOf (w := 4) (r := nI cc) hY hi ht (by decide) (show (if q_its v t 2 = 0 then (-1 : Int32) else q_its v t 4) = nI cc by rw [if_neg hne]; exact k4) (fun S2 hY => ?_)
    refine e_walkS mm_L_act_4 (stops := [330]) 60 ?_
    refine And.intro (by omega) (And.intro (by omega) ?_)
    refine l_tryBack hY hi ht (fun p2 hp2 w S3 hY => ?_) (fun w => absurd w hne)
    have hi2 := q_inv_back hi ht hp2 w
    have hz2 := z_ok_back hz hn hi ht hp2 w
    have g13 : q_back v nl t p2 13 = v 13 := (z_back_at (by omega) (by omega)).trans (z_back0_at (by omega) (by omega) (by omega) (by omega))
    have g3 : q_back v nl t p2 3 = v 3 := (z_back_at (by omega) (by omega)).trans (z_back0_at (by omega) (by omega) (by omega) (by omega))
    have y2 : q_its (q_back v nl t p2) t 2 = 0 := by
      rw [q_its, z_back_at (by omega) (by omega)]
      unfold q_back0
      rw [q_un (by omega), q_ue]
    have o3 : q_of (q_back v nl t p2) p2 3 = q_of v p2 3 + v 13 * q_its v t 4 := by
      rw [q_of, z_back_at (by omega) (by omega)]
      unfold q_back0
      rw [q_un (by omega), q_un (by omega), q_un (by omega), q_ue]
    have hdeb : q_deb (q_back v nl t p2) np = q_deb v np + v 13 * q_its v t 4 := by
      rw [z_deb_up hp2 (fun k a b => (z_back_at (by omega) (by omega)).trans (z_back0_at (by omega) (by omega) (by omega) (by omega))), o3, z_x1]
    refine e_walkS mm_L_act_4 (stops := [361]) 60 ?_
    refine And.intro (fun _ => ?_) (fun z => absurd (nI_pos' (by omega)) z)
    refine And.intro (by omega) (And.intro (by omega) ?_)
    refine m_count (w := 15) (r := v 13) hY hi2 (by decide) (c_15.trans g13) (fun S4 hY => ?_)
    refine e_walkS mm_L_act_4 (stops := [373]) 60 ?_
    refine And.intro (fun _ => ?_) (fun z => absurd ((by show v 13 * q_its v t 4 = v 13 * nI cc; rw [k4])) z)
    refine And.intro (by omega) (And.intro (by omega) ?_)
    refine m_count (w := 14) (r := q_deb v np + v 13 * q_its v t 4) hY hi2 (by decide) (c_14.trans hdeb) (fun S5 hY => ?_)
    refine e_walkS mm_L_act_4 (stops := [388]) 60 ?_
    refine And.intro (fun _ => ?_) (fun z => absurd (rfl) z)
    refine And.intro (by omega) (And.intro (by omega) ?_)
    refine m_instrumentOf (w := 2) (r := -1) hY hi2 ht (by decide) (i_2.trans (by rw [y2]; rfl)) (fun S6 hY => ?_)
    refine e_walkS mm_L_act_4 (stops := []) 60 ?_
    exact And.intro (fun _ => h S6 _ _ _ _ _ (hY.mono (Nat.le_succ n)) ⟨hi2.mono (Nat.le_succ n), hz2, hD.cg g3⟩) (fun z => absurd rfl z)
set_option maxHeartbeats 8000000 in
/-- a repair, from 398 on -/
theorem A_mend (hY : z_Y n S v d) (hA : z_A n v np ni nl) (h : z_fin n post) (ht : t < ni) (bc bs : Nat) (hb : 30 ≤ bc) (hs : 180 ≤ bs) : e_Run tb_L_act post e_no 398 (z_lc x y np ni p t 9 z_n7) [] S bc bs := by
  obtain ⟨hi, hz, hD⟩ := hA
  have hnp := hi.1.1
  have hni := hi.1.2.1
  obtain ⟨a2, cc, l2, ⟨k1, k4, k2⟩, k5, k6, k7, k8⟩ := hz.2.1 t ht
  rcases Nat.eq_zero_or_pos l2 with c | c
  · have e2 : q_its v t 2 = nI 0 := by rw [k2, c]
    have hl : ¬ 0 < q_its v t 2 := by rw [e2]; decide
    refine e_walkS mm_L_act_5 (stops := [411]) 60 ?_
    refine And.intro (fun _ => ?_) (fun z => absurd (rfl) z)
    refine And.intro (by omega) (And.intro (by omega) ?_)
    refine m_count (w := 8) (r := v 8 + 1000000) hY hi (by decide) rfl (fun S1 hY => ?_)
    refine e_walkS mm_L_act_5 (stops := [420]) 60 ?_
    refine And.intro (by omega) (And.intro (by omega) ?_)
    refine m_instrumentOf (w := 1) (r := q_its v t 1) hY hi ht (by decide) rfl (fun S2 hY => ?_)
    refine e_walkS mm_L_act_5 (stops := [429]) 60 ?_
    refine And.intro (by omega) (And.intro (by omega) ?_)
    refine m_instrumentOf (w := 2) (r := -1) hY hi ht (by decide) (show q_its v t 2 - 1 = -1 by rw [e2]; rfl) (fun S3 hY => ?_)
    refine e_walkS mm_L_act_5 (stops := [445]) 60 ?_
    refine And.intro (fun _ => ?_) (fun z => absurd (by decide) z)
    refine And.intro (by omega) (And.intro (by omega) ?_)
    refine l_tryMend hY hi ht (fun w S4 hY => ?_) (fun w => absurd w hl)
    have hi2 := q_inv_mend hi ht
    have hz2 := z_ok_mend hz hnp hni ht hl
    have g3 : q_mend v t 3 = v 3 := by rw [q_mend, q_un (by omega), q_un (by omega), q_un (by omega)]
    have g8 : q_mend v t 8 = v 8 - 15 * q_its v t 1 := by rw [q_mend, q_ue]
    have i1 : q_its (q_mend v t) t 1 = 0 := by rw [q_its, q_mend, q_un (by omega), q_un (by omega), q_ue]
    refine e_walkS mm_L_act_5 (stops := [484]) 60 ?_
    refine And.intro (fun _ => ?_) (fun z => absurd (rfl) z)
    refine And.intro (fun _ => ?_) (fun z => absurd (rfl) z)
    refine And.intro (by omega) (And.intro (by omega) ?_)
    refine m_count (w := 8) (r := v 8 - 15 * q_its v t 1 + 1000000) hY hi2 (by decide) (c_8.trans (by rw [g8])) (fun S5 hY => ?_)
    refine e_walkS mm_L_act_5 (stops := [499]) 60 ?_
    refine And.intro (fun _ => ?_) (fun z => absurd (z_x3 _ _ _) z)
    refine And.intro (by omega) (And.intro (by omega) ?_)
    refine m_instrumentOf (w := 1) (r := 0) hY hi2 ht (by decide) (i_1.trans i1) (fun S6 hY => ?_)
    refine e_walkS mm_L_act_5 (stops := []) 60 ?_
    exact And.intro (fun _ => h.go hY hi2 hz2 hD g3) (fun z => absurd rfl z)
  · obtain ⟨p2, rfl⟩ : ∃ p2, l2 = p2 + 1 := ⟨l2 - 1, by omega⟩
    have hl : 0 < q_its v t 2 := by rw [k2]; exact nI_lt (a := 0) (by omega) (by omega)
    refine e_walkS mm_L_act_5 (stops := [411]) 60 ?_
    refine And.intro (fun _ => ?_) (fun z => absurd (rfl) z)
    refine And.intro (by omega) (And.intro (by omega) ?_)
    refine m_count (w := 8) (r := v 8 + 1000000) hY hi (by decide) rfl (fun S1 hY => ?_)
    refine e_walkS mm_L_act_5 (stops := [420]) 60 ?_
    refine And.intro (by omega) (And.intro (by omega) ?_)
    refine m_instrumentOf (w := 1) (r := q_its v t 1) hY hi ht (by decide) rfl (fun S2 hY => ?_)
    refine e_walkS mm_L_act_5 (stops := [429]) 60 ?_
    refine And.intro (by omega) (And.intro (by omega) ?_)
    refine m_instrumentOf (w := 2) (r := nI p2) hY hi ht (by decide) (show q_its v t 2 - 1 = nI p2 by rw [k2]; exact nI_pred p2) (fun S3 hY => ?_)
    refine e_walkS mm_L_act_5 (stops := [445]) 60 ?_
    refine And.intro (fun z => absurd z (nI_pos (by omega))) (fun _ => ?_)
    refine And.intro (by omega) (And.intro (by omega) ?_)
    refine l_tryMend hY hi ht (fun w S4 hY => absurd hl w) (fun w => ?_)
    refine e_walkS mm_L_act_5 (stops := []) 60 ?_
    refine And.intro (fun z => absurd z (by decide)) (fun _ => ?_)
    exact And.intro (fun _ => h.go hY hi hz hD rfl) (fun z => absurd rfl z)
end LawAct
