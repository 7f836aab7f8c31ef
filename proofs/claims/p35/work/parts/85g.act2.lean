/-! The law: acts, 2. Own work (wip/p35/laws). -/
section LawAct2
variable {S S1 S2 : eM} {post : eQ} {v v2 : qV} {n np ni nl p t s : Nat} {d : z_D} {x y : Int32}
/-- dents, from 583 on -/
theorem A_dent2 {a c l b : Nat} {came : Int32} (hY : z_Y n S v d) (hA : z_A n v np ni nl) (h : z_fin n post) (ht : t < ni) (h1 : 1 ≤ b) (h9 : b ≤ 9) (k1 : q_its v t 1 = nI a) (k4 : q_its v t 4 = nI c) (k2 : q_its v t 2 = nI l) (k5 : c ≤ a) (k6 : a ≤ 9) (k7 : l ≤ 10) (hcame : came = if l = 0 then -1 else nI c) (bc bs : Nat) (hb : 20 ≤ bc) (hs : 120 ≤ bs) : e_Run tb_L_act post e_no 583 (z_lc x y np ni p t 10 [some (aI (nI a)), some (aI came), some (aI (nI b)), some (aI (nI (min 9 (a + b)))), none, none, none]) [] S bc bs := by
  obtain ⟨hi, hz, hD⟩ := hA
  have hnp := hi.1.1
  have hni := hi.1.2.1
  have hi2 := q_inv_dents (n := b) hi ht h9
  have hz2 := z_ok_dents (t := b) hz hnp ht h9
  have hdn := z_dn (v := v) (i := t) (t := b) k1 k6 h9
  have g3 : q_dents v t (nI b) 3 = v 3 := z_dents_at (by omega) (by omega)
  have x1 : q_its (q_dents v t (nI b)) t 1 = nI (min 9 (a + b)) := by rw [q_its, q_dents, q_un (by omega), q_ue]; exact hdn
  have x2 : q_its (q_dents v t (nI b)) t 2 = nI l := by rw [q_its, z_dents_at (by omega) (by omega)]; exact k2
  have x4 : q_its (q_dents v t (nI b)) t 4 = if 0 < q_its v t 2 then q_its v t 4 + q_dn v t (nI b) - q_its v t 1 else 0 := by rw [q_its, q_dents, q_ue]
  refine e_walkS mm_L_act_6 (stops := [591]) 60 ?_
  refine And.intro (by omega) (And.intro (by omega) ?_)
  refine k_dent (t := b) (r := nI (min 9 (a + b))) hY hi ht h1 h9 rfl hdn (fun S2 hY => ?_)
  refine e_walkS mm_L_act_6 (stops := [603]) 60 ?_
  refine And.intro (fun _ => ?_) (fun z => absurd (rfl) z)
  refine And.intro (by omega) (And.intro (by omega) ?_)
  refine m_instrumentOf (w := 1) (r := nI (min 9 (a + b))) hY hi2 ht (by decide) (i_1.trans x1) (fun S3 hY => ?_)
  by_cases hl : l = 0
  · rw [if_pos hl] at hcame
    rw [hcame]
    refine e_walkS mm_L_act_6 (stops := [615]) 60 ?_
    refine And.intro (fun _ => ?_) (fun z => absurd (rfl) z)
    refine And.intro (by omega) (And.intro (by omega) ?_)
    refine m_instrumentOf (w := 4) (r := -1) hY hi2 ht (by decide) (i_4.trans (by rw [x2, hl]; rfl)) (fun S4 hY => ?_)
    refine e_walkS mm_L_act_6 (stops := []) 60 ?_
    refine And.intro (fun z => absurd z (by decide)) (fun _ => ?_)
    exact And.intro (fun _ => h.go hY hi2 hz2 hD g3) (fun z => absurd rfl z)
  · rw [if_neg hl] at hcame
    rw [hcame]
    rw [k2, k4, k1, hdn, nI_add, if_pos (show (0 : Int32) < nI l from nI_lt (a := 0) (by omega) (by omega)), q_sub (by omega)] at x4
    refine e_walkS mm_L_act_6 (stops := [615]) 60 ?_
    refine And.intro (fun _ => ?_) (fun z => absurd (rfl) z)
    refine And.intro (by omega) (And.intro (by omega) ?_)
    refine m_instrumentOf (w := 4) (r := nI (c + min 9 (a + b) - a)) hY hi2 ht (by decide) (i_4.trans (by rw [x2, if_neg (nI_ne0 (by omega) (by omega))]; exact x4)) (fun S4 hY => ?_)
    refine e_walkS mm_L_act_6 (stops := []) 60 ?_
    refine And.intro (fun _ => ?_) (fun z => absurd (nI_pos' (by omega)) z)
    refine And.intro (fun _ => h.go hY hi2 hz2 hD g3) (fun z => absurd ?_ z)
    show nI (c + min 9 (a + b) - a) = nI c + nI (min 9 (a + b)) - nI a
    rw [nI_add, q_sub (by omega)]
set_option maxHeartbeats 8000000 in
/-- dents, from 508 on -/
theorem A_dent (hY : z_Y n S v d) (hA : z_A n v np ni nl) (h : z_fin n post) (ht : t < ni) (bc bs : Nat) (hb : 30 ≤ bc) (hs : 180 ≤ bs) : e_Run tb_L_act post e_no 508 (z_lc x y np ni p t 10 z_n7) [] S bc bs := by
  have hA2 := hA
  obtain ⟨hi, hz, hD⟩ := hA2
  have hni := hi.1.2.1
  obtain ⟨a, c, l, ⟨k1, k4, k2⟩, k5, k6, k7, k8⟩ := hz.2.1 t ht
  have hcame : q_iTold v t 4 = if l = 0 then -1 else nI c := by
    show (if q_its v t 2 = 0 then (-1 : Int32) else q_its v t 4) = _
    rw [k2]
    by_cases hl : l = 0
    · rw [if_pos hl, hl]; rfl
    · rw [if_neg hl, if_neg (nI_ne0 (by omega) (by omega))]; exact k4
  have fin : ∀ (b : Nat) (S : eM), 1 ≤ b → b ≤ 9 → z_Y n S v d → ∀ bc bs, 20 ≤ bc → 120 ≤ bs → e_Run tb_L_act post e_no 561 (z_lc x y np ni p t 10 [some (aI (nI a)), some (aI (if l = 0 then -1 else nI c)), some (aI (nI b)), none, none, none, none]) [] S bc bs := by
    intro b S h1 h9 hY bc bs hb hs
    by_cases cc : a + b ≤ 9
    · refine e_walkS mm_L_act_6 (stops := [581]) 60 ?_
      refine And.intro (fun _ => ?_) (fun z => absurd ((by show nI a + nI b ≤ 9; rw [nI_add]; exact nI_le (b := 9) cc (by decide))) z)
      show e_Run tb_L_act post e_no 581 (z_lc x y np ni p t 10 [some (aI (nI a)), some (aI (if l = 0 then -1 else nI c)), some (aI (nI b)), none, none, none, none]) [aI (nI a + nI b)] S bc bs
      rw [nI_add, show a + b = min 9 (a + b) by omega]
      refine e_walkS mm_L_act_6 (stops := [583]) 60 ?_
      exact A_dent2 hY hA h ht h1 h9 k1 k4 k2 k5 k6 k7 rfl _ _ hb hs
    · refine e_walkS mm_L_act_6 (stops := [583]) 60 ?_
      refine And.intro (fun z => absurd z ((by show ¬ nI a + nI b ≤ 9; rw [nI_add]; exact nI_ge (a := 9) (by omega) (by omega)))) (fun _ => ?_)
      have z := A_dent2 (p := p) (x := x) (y := y) (b := b) hY hA h ht h1 h9 k1 k4 k2 k5 k6 k7 rfl bc bs hb hs
      rw [show min 9 (a + b) = 9 by omega] at z
      exact z
  refine e_walkS mm_L_act_6 (stops := [522]) 60 ?_
  refine And.intro (fun _ => ?_) (fun z => absurd (rfl) z)
  refine And.intro (by omega) (And.intro (by omega) ?_)
  refine m_instrumentOf (w := 1) (r := nI a) hY hi ht (by decide) k1 (fun S1 hY => ?_)
  refine e_walkS mm_L_act_6 (stops := [531]) 60 ?_
  refine And.intro (by omega) (And.intro (by omega) ?_)
  refine m_instrumentOf (w := 4) (r := if l = 0 then -1 else nI c) hY hi ht (by decide) hcame (fun S2 hY => ?_)
  refine e_walkS mm_L_act_6 (stops := [546]) 60 ?_
  refine L_low (k := 3) (by decide) (by decide) ?_
  have h3 := z_low_lt (x := y >>> ((12 : Int32) &&& 31)) (k := 3) (by decide)
  by_cases c0 : z_low (y >>> ((12 : Int32) &&& 31)) 3 = 0
  · have hr := z_low_lt (x := y >>> ((8 : Int32) &&& 31)) (k := 9) (by decide)
    refine e_walkS mm_L_act_6 (stops := [558]) 60 ?_
    refine And.intro (fun _ => ?_) (fun z => absurd ((by show nI (z_low (y >>> ((12 : Int32) &&& 31)) 3) = 0; rw [c0]; rfl)) z)
    refine L_low (k := 9) (by decide) (by decide) ?_
    refine e_walkS mm_L_act_6 (stops := [559]) 1 ?_
    show e_Run tb_L_act post e_no 559 (z_lc x y np ni p t 10 [some (aI (nI a)), some (aI (if l = 0 then -1 else nI c)), none, none, none, none, none]) [aI (nI 1 + nI (z_low (y >>> ((8 : Int32) &&& 31)) 9))] S2 _ _
    rw [nI_add]
    refine e_walkS mm_L_act_6 (stops := [561]) 60 ?_
    exact fin _ S2 (by omega) (by omega) hY _ _ (by omega) (by omega)
  · have hr := z_low_lt (x := y >>> ((8 : Int32) &&& 31)) (k := 2) (by decide)
    refine e_walkS mm_L_act_6 (stops := [558]) 60 ?_
    refine And.intro (fun z => absurd z ((show ¬ nI (z_low (y >>> ((12 : Int32) &&& 31)) 3) = 0 from nI_ne0 (by omega) (by omega)))) (fun _ => ?_)
    refine L_low (k := 2) (by decide) (by decide) ?_
    refine e_walkS mm_L_act_6 (stops := [559]) 1 ?_
    show e_Run tb_L_act post e_no 559 (z_lc x y np ni p t 10 [some (aI (nI a)), some (aI (if l = 0 then -1 else nI c)), none, none, none, none, none]) [aI (nI 1 + nI (z_low (y >>> ((8 : Int32) &&& 31)) 2))] S2 _ _
    rw [nI_add]
    refine e_walkS mm_L_act_6 (stops := [561]) 60 ?_
    exact fin _ S2 (by omega) (by omega) hY _ _ (by omega) (by omega)
set_option maxHeartbeats 8000000 in
/-- a debt is paid, from 641 on -/
theorem A_pay (hY : z_Y n S v d) (hA : z_A n v np ni nl) (hn : n ≤ 1000) (h : z_fin n post) (hp : p < np) (bc bs : Nat) (hb : 30 ≤ bc) (hs : 180 ≤ bs) : e_Run tb_L_act post e_no 641 (z_lc x y np ni p t 11 z_n7) [] S bc bs := by
  obtain ⟨hi, hz, hD⟩ := hA
  have hnp := hi.1.1
  obtain ⟨dd, d1, d2⟩ := hz.1 p hp
  have hr := z_low_lt (x := y >>> ((6 : Int32) &&& 31)) (k := 99) (by decide)
  refine e_walkS mm_L_act_7 (stops := [655]) 60 ?_
  refine And.intro (fun _ => ?_) (fun z => absurd (rfl) z)
  refine And.intro (by omega) (And.intro (by omega) ?_)
  refine m_pupilOf (w := 3) (r := nI dd) hY hi hp (by decide) d1 (fun S1 hY => ?_)
  refine e_walkS mm_L_act_7 (stops := [663]) 60 ?_
  refine And.intro (by omega) (And.intro (by omega) ?_)
  refine m_count (w := 14) (r := q_deb v np) hY hi (by decide) rfl (fun S2 hY => ?_)
  refine e_walkS mm_L_act_7 (stops := [671]) 60 ?_
  refine And.intro (by omega) (And.intro (by omega) ?_)
  refine m_count (w := 11) (r := v 10) hY hi (by decide) rfl (fun S3 hY => ?_)
  refine e_walkS mm_L_act_7 (stops := [679]) 60 ?_
  refine And.intro (by omega) (And.intro (by omega) ?_)
  refine m_count (w := 8) (r := v 8 + 1000000) hY hi (by decide) rfl (fun S4 hY => ?_)
  refine e_walkS mm_L_act_7 (stops := [691]) 60 ?_
  refine L_low (k := 99) (by decide) (by decide) ?_
  refine e_walkS mm_L_act_7 (stops := [692]) 1 ?_
  show e_Run tb_L_act post e_no 692 (z_lc x y np ni p t 11 [some (aI (nI dd)), some (aI (q_deb v np)), some (aI (v 10)), some (aI (v 8 + 1000000)), none, none, none]) [aI (nI 1 + nI (z_low (y >>> ((6 : Int32) &&& 31)) 99))] S4 _ _
  rw [nI_add]
  generalize z_low (y >>> ((6 : Int32) &&& 31)) 99 = r at hr ⊢
  have hpp := z_pays (p := p) (a := 1 + r) d1 (by omega) (by omega)
  have hi2 := q_inv_pay (y := nI (1 + r)) hi hp
  have hz2 := z_ok_pay (a := 1 + r) hz hn hnp hp (by omega)
  have g3 : q_pay v p (nI (1 + r)) 3 = v 3 := by rw [q_pay, q_un (by omega), q_un (by omega), q_un (by omega)]
  have g10 : q_pay v p (nI (1 + r)) 10 = v 10 + nI (min (1 + r) dd) := by rw [q_pay, q_un (by omega), q_ue, hpp]
  have g8 : q_pay v p (nI (1 + r)) 8 = v 8 + nI (min (1 + r) dd) := by rw [q_pay, q_ue, hpp]
  have o3 : q_of (q_pay v p (nI (1 + r))) p 3 = q_of v p 3 - nI (min (1 + r) dd) := by rw [q_of, q_pay, q_un (by omega), q_un (by omega), q_ue, hpp]
  have hdeb : q_deb (q_pay v p (nI (1 + r))) np = q_deb v np - nI (min (1 + r) dd) := by
    rw [z_deb_up (v := v) hp (fun k a b => by rw [q_of, q_pay, q_un (by omega), q_un (by omega), q_un (by omega)]), o3, z_x4]
  have tail : ∀ (S : eM), z_Y n S (q_pay v p (nI (1 + r))) (z_nx d v) → ∀ bc bs, 10 ≤ bc → 60 ≤ bs → e_Run tb_L_act post e_no 723 (z_lc x y np ni p t 11 [some (aI (nI dd)), some (aI (q_deb v np)), some (aI (v 10)), some (aI (v 8 + 1000000)), some (aI (nI (1 + r))), some (aI (nI (min (1 + r) dd))), none]) [] S bc bs := by
    intro S hY bc bs hb hs
    refine e_walkS mm_L_act_7 (stops := [729]) 60 ?_
    refine And.intro (by omega) (And.intro (by omega) ?_)
    refine m_count (w := 14) (r := q_deb v np - nI (min (1 + r) dd)) hY hi2 (by decide) (c_14.trans hdeb) (fun S2 hY => ?_)
    refine e_walkS mm_L_act_7 (stops := [743]) 60 ?_
    refine And.intro (fun _ => ?_) (fun z => absurd (rfl) z)
    refine And.intro (by omega) (And.intro (by omega) ?_)
    refine m_count (w := 11) (r := v 10 + nI (min (1 + r) dd)) hY hi2 (by decide) (c_11.trans g10) (fun S3 hY => ?_)
    refine e_walkS mm_L_act_7 (stops := [757]) 60 ?_
    refine And.intro (fun _ => ?_) (fun z => absurd (rfl) z)
    refine And.intro (by omega) (And.intro (by omega) ?_)
    refine m_count (w := 8) (r := v 8 + nI (min (1 + r) dd) + 1000000) hY hi2 (by decide) (c_8.trans (by rw [g8])) (fun S4 hY => ?_)
    refine e_walkS mm_L_act_7 (stops := []) 60 ?_
    exact And.intro (fun _ => h.go hY hi2 hz2 hD g3) (fun z => absurd (z_r2 _ _ _) z)
  refine e_walkS mm_L_act_7 (stops := [702]) 60 ?_
  refine And.intro (by omega) (And.intro (by omega) ?_)
  refine k_pay (a := 1 + r) (r := nI (min (1 + r) dd)) hY hi hp (by omega) (by omega) rfl hpp (fun S5 hY => ?_)
  by_cases cc : dd ≤ 1 + r
  · refine e_walkS mm_L_act_7 (stops := [723]) 60 ?_
    refine And.intro (fun _ => ?_) (fun z => absurd (nI_le cc (by omega)) z)
    refine And.intro (fun _ => ?_) (fun z => absurd ((by rw [show min (1 + r) dd = dd by omega])) z)
    exact tail S5 hY _ _ (by omega) (by omega)
  · refine e_walkS mm_L_act_7 (stops := [723]) 60 ?_
    refine And.intro (fun z => absurd z (nI_ge (by omega) (by omega))) (fun _ => ?_)
    refine And.intro (fun _ => ?_) (fun z => absurd ((by rw [show min (1 + r) dd = 1 + r by omega])) z)
    exact tail S5 hY _ _ (by omega) (by omega)
theorem z_cset {k sn : Nat} (hk : k < 3) : q_cTold v np sn (15 + k) = v (13 + k) := by
  rcases (show k = 0 ∨ k = 1 ∨ k = 2 by omega) with rfl | rfl | rfl <;> rfl
set_option maxHeartbeats 8000000 in
/-- a setting, from 771 on -/
theorem A_set (hY : z_Y n S v d) (hA : z_A n v np ni nl) (h : z_fin n post) (bc bs : Nat) (hb : 30 ≤ bc) (hs : 180 ≤ bs) : e_Run tb_L_act post e_no 771 (z_lc x y np ni p t 12 z_n7) [] S bc bs := by
  obtain ⟨hi, hz, hD⟩ := hA
  have hnp := hi.1.1
  have h3 := z_low_lt (x := y) (k := 3) (by decide)
  have fin : ∀ (k to : Nat) (S : eM), z_low y 3 = k → k < 3 → to ≤ (if k = 0 then 50 else if k = 1 then 200 else 99) → z_Y n S v d → ∀ bc bs, 20 ≤ bc → 120 ≤ bs → e_Run tb_L_act post e_no 814 (z_lc x y np ni p t 12 z_n7) [aI (nI to)] S bc bs := by
    intro k to S ek hk hto hY bc bs hb hs
    have hi2 := q_inv_set (y := nI to) hi hk
    have hz2 := z_ok_set (y := to) hz hnp hk (fun z => by subst z; exact hto) (fun z => by subst z; exact hto)
    have g3 : upd v (13 + k) (nI to) 3 = v 3 := q_un (by omega)
    refine e_walkS mm_L_act_8 (stops := [824]) 60 ?_
    refine L_low (k := 3) (by decide) (by decide) ?_
    rw [ek]
    refine e_walkS mm_L_act_8 (stops := [828]) 60 ?_
    refine And.intro (by omega) (And.intro (by omega) ?_)
    refine k_count (w := 15 + k) (r := v (13 + k)) (nI_add 15 k) hY hi (by omega) (z_cset hk) (fun S1 hY => ?_)
    refine e_walkS mm_L_act_8 (stops := [836]) 60 ?_
    refine L_low (k := 3) (by decide) (by decide) ?_
    rw [ek]
    refine e_walkS mm_L_act_8 (stops := [841]) 60 ?_
    refine And.intro (by omega) (And.intro (by omega) ?_)
    refine l_set hY hi hk hto (fun S2 hY => ?_)
    refine e_walkS mm_L_act_8 (stops := [854]) 60 ?_
    refine And.intro (fun _ => ?_) (fun z => absurd (rfl) z)
    refine L_low (k := 3) (by decide) (by decide) ?_
    rw [ek]
    refine e_walkS mm_L_act_8 (stops := [858]) 60 ?_
    refine And.intro (by omega) (And.intro (by omega) ?_)
    refine k_count (w := 15 + k) (r := nI to) (nI_add 15 k) hY hi2 (by omega) ((z_cset hk).trans q_ue) (fun S3 hY => ?_)
    refine e_walkS mm_L_act_8 (stops := []) 60 ?_
    exact And.intro (fun _ => h.go hY hi2 hz2 hD g3) (fun z => absurd rfl z)
  refine e_walkS mm_L_act_8 (stops := [786]) 60 ?_
  refine And.intro (fun _ => ?_) (fun z => absurd (rfl) z)
  refine L_low (k := 3) (by decide) (by decide) ?_
  rcases (show z_low y 3 = 0 ∨ z_low y 3 = 1 ∨ z_low y 3 = 2 by omega) with e | e | e
  · have hr := z_low_lt (x := y >>> ((3 : Int32) &&& 31)) (k := 51) (by decide)
    refine e_walkS mm_L_act_8 (stops := [814]) 60 ?_
    refine And.intro (fun _ => ?_) (fun z => absurd ((by show nI (z_low y 3) = 0; rw [e]; rfl)) z)
    refine L_low (k := 51) (by decide) (by decide) ?_
    exact fin 0 _ S e (by decide) (show z_low (y >>> ((3 : Int32) &&& 31)) 51 ≤ 50 by omega) hY _ _ (by omega) (by omega)
  · have hr := z_low_lt (x := y >>> ((3 : Int32) &&& 31)) (k := 201) (by decide)
    refine e_walkS mm_L_act_8 (stops := [799]) 60 ?_
    refine And.intro (fun z => absurd z ((by show ¬ nI (z_low y 3) = 0; rw [e]; decide))) (fun _ => ?_)
    refine L_low (k := 3) (by decide) (by decide) ?_
    refine e_walkS mm_L_act_8 (stops := [814]) 60 ?_
    refine And.intro (fun _ => ?_) (fun z => absurd ((by show nI (z_low y 3) = 1; rw [e]; rfl)) z)
    refine L_low (k := 201) (by decide) (by decide) ?_
    exact fin 1 _ S e (by decide) (show z_low (y >>> ((3 : Int32) &&& 31)) 201 ≤ 200 by omega) hY _ _ (by omega) (by omega)
  · have hr := z_low_lt (x := y >>> ((3 : Int32) &&& 31)) (k := 100) (by decide)
    refine e_walkS mm_L_act_8 (stops := [799]) 60 ?_
    refine And.intro (fun z => absurd z ((by show ¬ nI (z_low y 3) = 0; rw [e]; decide))) (fun _ => ?_)
    refine L_low (k := 3) (by decide) (by decide) ?_
    refine e_walkS mm_L_act_8 (stops := [814]) 60 ?_
    refine And.intro (fun z => absurd z ((by show ¬ nI (z_low y 3) = 1; rw [e]; decide))) (fun _ => ?_)
    refine L_low (k := 100) (by decide) (by decide) ?_
    exact fin 2 _ S e (by decide) (show z_low (y >>> ((3 : Int32) &&& 31)) 100 ≤ 99 by omega) hY _ _ (by omega) (by omega)
set_option maxHeartbeats 8000000 in
/-- days pass, from 869 on -/
theorem A_pass (hY : z_Y n S v d) (hA : z_A n v np ni nl) (hn : n ≤ 1000) (h : z_fin n post) (hp : p < np) (s15 : s < 15) (bc bs : Nat) (hb : 30 ≤ bc) (hs : 180 ≤ bs) : e_Run tb_L_act post e_no 869 (z_lc x y np ni p t s z_n7) [] S bc bs := by
  obtain ⟨hi, hz, D, hD, hD2⟩ := hA
  have hnp := hi.1.1
  have hni := hi.1.2.1
  have hrem : nI D - nI D / nI 7 * nI 7 = nI (D % 7) := pk_rem (by omega) (by decide) (by decide)
  have h7 := Nat.mod_lt D (show 0 < 7 by decide)
  have fin : ∀ (a : Nat) (S : eM), 1 ≤ a → a ≤ 6 → z_Y n S v d → ∀ bc bs, 20 ≤ bc → 120 ≤ bs → e_Run tb_L_act post e_no 922 (z_lc x y np ni p t s [some (aI (nI D)), none, none, none, none, none, none]) [aI (nI a)] S bc bs := by
    intro a S h1 h6 hY bc bs hb hs
    have hi2 := q_inv_ps (dd := a) hi (by omega)
    have hz2 := z_ok_ps (d := nI a) hz hnp hni
    obtain ⟨o1, o5⟩ := q_ps_of v (nI a) np p hp
    have o0 : q_of (q_ps v (nI a) np) p 0 = q_of v p 0 := q_ps_at v (nI a) np _ (Or.inr (Or.inr (Or.inr (Or.inr (Or.inr ⟨p, 0, by decide, by decide, by decide, rfl⟩)))))
    have o3 := (q_ps_34 v (nI a) np).1
    have hday : z_day (n + 1) (q_ps v (nI a) np) := ⟨D + a, by rw [o3, hD, nI_add], by omega⟩
    refine e_walkS mm_L_act_9 (stops := [931]) 60 ?_
    refine And.intro (by omega) (And.intro (by omega) ?_)
    refine m_pupilOf (w := 1) (r := q_of v p 1) hY hi hp (by decide) rfl (fun S1 hY => ?_)
    refine e_walkS mm_L_act_9 (stops := [944]) 60 ?_
    refine And.intro (by omega) (And.intro (by omega) ?_)
    refine l_pass hY hi h1 (by omega) (fun S2 hY => ?_)
    refine e_walkS mm_L_act_9 (stops := [957]) 60 ?_
    refine And.intro (fun _ => ?_) (fun z => absurd ((by show v 3 + nI a = nI D + nI a; rw [hD])) z)
    refine And.intro (by omega) (And.intro (by omega) ?_)
    refine m_count (w := 3) (r := v 3 + nI a) hY hi2 (by decide) (c_3.trans o3) (fun S3 hY => ?_)
    refine e_walkS mm_L_act_9 (stops := [972]) 60 ?_
    refine And.intro (fun _ => ?_) (fun z => absurd ((by show v 3 + nI a = nI D + nI a; rw [hD])) z)
    refine And.intro (by omega) (And.intro (by omega) ?_)
    refine m_pupilOf (w := 5) (r := 0) hY hi2 hp (by decide) (p_5.trans o5) (fun S4 hY => ?_)
    refine e_walkS mm_L_act_9 (stops := [982]) 60 ?_
    refine And.intro (fun _ => ?_) (fun z => absurd (rfl) z)
    refine And.intro (by omega) (And.intro (by omega) ?_)
    refine m_pupilOf (w := 1) (r := if q_of v p 0 < q_of v p 1 + 4 * nI a then q_of v p 0 else q_of v p 1 + 4 * nI a) hY hi2 hp (by decide) (p_1.trans o1) (fun S5 hY => ?_)
    refine e_walkS mm_L_act_9 (stops := [991]) 60 ?_
    refine And.intro (by omega) (And.intro (by omega) ?_)
    refine m_pupilOf (w := 0) (r := q_of v p 0) hY hi2 hp (by decide) (p_0.trans o0) (fun S6 hY => ?_)
    by_cases c : q_of v p 0 < q_of v p 1 + 4 * nI a
    · rw [if_pos c]
      refine e_walkS mm_L_act_9 (stops := [1001]) 60 ?_
      refine And.intro (fun z => absurd z (Int32.not_le.mpr c)) (fun _ => ?_)
      refine And.intro (by omega) (And.intro (by omega) ?_)
      refine m_pupilOf (w := 0) (r := q_of v p 0) hY hi2 hp (by decide) (p_0.trans o0) (fun S7 hY => ?_)
      refine e_walkS mm_L_act_9 (stops := []) 60 ?_
      exact And.intro (fun _ => h S7 _ _ _ _ _ (hY.mono (Nat.le_succ n)) ⟨hi2.mono (Nat.le_succ n), hz2.mono (Nat.le_succ n), hday⟩) (fun z => absurd rfl z)
    · rw [if_neg c]
      refine e_walkS mm_L_act_9 (stops := []) 60 ?_
      refine And.intro (fun _ => ?_) (fun z => absurd (Int32.not_lt.mp c) z)
      exact And.intro (fun _ => h S6 _ _ _ _ _ (hY.mono (Nat.le_succ n)) ⟨hi2.mono (Nat.le_succ n), hz2.mono (Nat.le_succ n), hday⟩) (fun z => absurd rfl z)
  have few : ∀ (S : eM), z_Y n S v d → ∀ bc bs, 20 ≤ bc → 120 ≤ bs → e_Run tb_L_act post e_no 904 (z_lc x y np ni p t s [some (aI (nI D)), none, none, none, none, none, none]) [] S bc bs := by
    intro S hY bc bs hb hs
    have hr := z_low_lt (x := y) (k := 3) (by decide)
    refine e_walkS mm_L_act_9 (stops := [910]) 60 ?_
    refine L_low (k := 3) (by decide) (by decide) ?_
    refine e_walkS mm_L_act_9 (stops := [911]) 1 ?_
    show e_Run tb_L_act post e_no 911 (z_lc x y np ni p t s [some (aI (nI D)), none, none, none, none, none, none]) [aI (nI 1 + nI (z_low y 3))] S bc bs
    rw [nI_add]
    refine e_walkS mm_L_act_9 (stops := [922]) 60 ?_
    exact fin _ S (by omega) (by omega) hY _ _ hb hs
  refine e_walkS mm_L_act_9 (stops := [881]) 60 ?_
  refine And.intro (fun z => absurd z (nI_ge (b := 15) s15 (by decide))) (fun _ => ?_)
  refine And.intro (by omega) (And.intro (by omega) ?_)
  refine m_count (w := 3) (r := nI D) hY hi (by decide) hD (fun S1 hY => ?_)
  refine e_walkS mm_L_act_9 (stops := [891]) 60 ?_
  refine L_low (k := 2) (by decide) (by decide) ?_
  have hr := z_low_lt (x := y >>> ((6 : Int32) &&& 31)) (k := 2) (by decide)
  by_cases c0 : z_low (y >>> ((6 : Int32) &&& 31)) 2 = 0
  · refine e_walkS mm_L_act_9 (stops := [904]) 60 ?_
    refine And.intro (fun _ => ?_) (fun z => absurd ((by show nI (z_low (y >>> ((6 : Int32) &&& 31)) 2) = 0; rw [c0]; rfl)) z)
    exact few S1 hY _ _ (by omega) (by omega)
  · by_cases c6 : D % 7 = 6
    · refine e_walkS mm_L_act_9 (stops := [904]) 60 ?_
      refine And.intro (fun z => absurd z ((show ¬ nI (z_low (y >>> ((6 : Int32) &&& 31)) 2) = 0 from nI_ne0 (by omega) (by omega)))) (fun _ => ?_)
      refine And.intro (by decide) ?_
      refine And.intro (fun _ => ?_) (fun z => absurd ((by show nI D - nI D / nI 7 * nI 7 = 6; rw [hrem, c6]; rfl)) z)
      exact few S1 hY _ _ (by omega) (by omega)
    · refine e_walkS mm_L_act_9 (stops := [914]) 60 ?_
      refine And.intro (fun z => absurd z ((show ¬ nI (z_low (y >>> ((6 : Int32) &&& 31)) 2) = 0 from nI_ne0 (by omega) (by omega)))) (fun _ => ?_)
      refine And.intro (by decide) ?_
      refine And.intro (fun z => absurd z ((by show ¬ nI D - nI D / nI 7 * nI 7 = 6; rw [hrem]; exact fun z => c6 ((nI_eq (b := 6) (by omega) (by decide)).mp z)))) (fun _ => ?_)
      refine e_walkS mm_L_act_9 (stops := [922]) 60 ?_
      refine And.intro (by decide) ?_
      show e_Run tb_L_act post e_no 922 (z_lc x y np ni p t s [some (aI (nI D)), none, none, none, none, none, none]) [aI (nI 6 - (nI D - nI D / nI 7 * nI 7))] S1 _ _
      rw [hrem, q_sub (by omega)]
      exact fin _ S1 (by omega) (by omega) hY _ _ (by omega) (by omega)
end LawAct2
