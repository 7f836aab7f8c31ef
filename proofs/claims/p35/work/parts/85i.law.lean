/-! The law: what it makes, its loop. Own work (wip/p35/laws). -/
section LawLoop
variable {S S1 S2 : eM} {post : eQ} {v v2 : qV} {n np ni nl L : Nat} {d : z_D} {xs : Nat → Int32}
theorem z_A0 : z_A 0 q_v0 0 0 0 := by
  refine ⟨q_inv_v0, ⟨fun p hp => absurd hp (Nat.not_lt_zero p), fun i hi => absurd hi (Nat.not_lt_zero i), ⟨20, 30, rfl, by decide, rfl, by decide⟩, ?_, ?_, ?_, rfl⟩, 0, rfl, Nat.le_refl _⟩
  · show q_v0 8 = q_v0 9 + q_v0 10 - q_v0 11 - q_v0 12
    decide
  · show (0 : Int32) = 4 * q_v0 6 - q_v0 7
    decide
  · show (0 : Int32) = 4 * q_v0 6 - q_v0 7
    decide
set_option maxHeartbeats 8000000 in
/-- the acts, from 42 on -/
theorem law_loop (hp : ∀ S, post (some (aI 1)) S) : ∀ c e, e + c = 50 → ∀ (S1 : eM) (v : qV) (np ni nl : Nat) (d : z_D) (l3 : Option eV) (bc bs : Nat), z_Y e S1 v d → z_A e v np ni nl → 2698 * c + 592 ≤ bc → 125628 * c + 38112 ≤ bs → e_Run (tb_LB L xs) post e_no 42 [some (aR 23 0), some (aR 0 0), some (aI (nI e)), l3] [] S1 bc bs := by
  intro c
  induction c with
  | zero =>
    intro e he S1 v np ni nl d l3 bc bs hY hA hb hs
    obtain rfl : e = 50 := by omega
    refine e_walk (stops := [113]) 60 ?_
    refine And.intro (fun _ => ?_) (fun z => absurd (by decide) z)
    refine And.intro (by omega) (And.intro (by omega) ?_)
    refine L_isText (m := 0) hY hA.1 (by decide) (fun S2 hY => ?_)
    refine e_walk (stops := [121]) 60 ?_
    refine And.intro (fun z => absurd z (by decide)) (fun _ => ?_)
    refine And.intro (by omega) (And.intro (by omega) ?_)
    refine L_isText (m := 3) hY hA.1 (by decide) (fun S3 hY => ?_)
    refine e_walk (stops := []) 60 ?_
    exact And.intro (fun z => absurd z (by decide)) (fun _ => hp S3)
  | succ c ih =>
    intro e he S1 v np ni nl d l3 bc bs hY hA hb hs
    have act : ∀ (x : Int32), e_Run (tb_LB L xs) post e_no 75 [some (aR 23 0), some (aR 0 0), some (aI (nI e)), l3] [aI x] S1 bc bs := by
      intro x
      refine e_walk (stops := [87]) 60 ?_
      refine And.intro ⟨2 * e + 1, by omega, by show [aR 23 0, aI (nI 2 * nI e + 1)] = _; rw [nI_mul, nI_1]⟩ (fun y => ?_)
      refine e_walk (stops := [90]) 60 ?_
      refine And.intro (by omega) (And.intro (by omega) ?_)
      refine L_act hY hA (by omega) (fun S2 v2 d2 np2 ni2 nl2 hY hA => ?_)
      refine e_walk (stops := [97]) 60 ?_
      refine And.intro (fun z => absurd z (by decide)) (fun _ => ?_)
      refine And.intro (by omega) (And.intro (by omega) ?_)
      refine L_holds hY hA.1 hA.2.1 (by omega) (fun S3 hY => ?_)
      refine e_walk (stops := [42]) 60 ?_
      refine And.intro (fun z => absurd z (by decide)) (fun _ => ?_)
      show e_Run (tb_LB L xs) post e_no 42 [some (aR 23 0), some (aR 0 0), some (aI (nI e + 1)), some (aI x)] [] S3 _ _
      rw [nI_1]
      exact ih (e + 1) (by omega) S3 v2 np2 ni2 nl2 d2 _ _ _ hY hA (by omega) (by omega)
    by_cases c8 : e < 8
    · have hrem : nI e - nI e / nI 2 * nI 2 = nI (e % 2) := pk_rem (by omega) (by decide) (by decide)
      by_cases c0 : e % 2 = 0
      · refine e_walk (stops := [75]) 60 ?_
        refine And.intro (fun z => absurd z (nI_ge (b := 50) (by omega) (by decide))) (fun _ => ?_)
        refine And.intro (fun z => absurd z (nI_ge (b := 8) c8 (by decide))) (fun _ => ?_)
        refine And.intro (by decide) ?_
        refine And.intro (fun _ => ?_) (fun z => absurd ((by show nI e - nI e / nI 2 * nI 2 = 0; rw [hrem, c0]; rfl)) z)
        exact act 0
      · refine e_walk (stops := [75]) 60 ?_
        refine And.intro (fun z => absurd z (nI_ge (b := 50) (by omega) (by decide))) (fun _ => ?_)
        refine And.intro (fun z => absurd z (nI_ge (b := 8) c8 (by decide))) (fun _ => ?_)
        refine And.intro (by decide) ?_
        refine And.intro (fun z => absurd z ((by show ¬ nI e - nI e / nI 2 * nI 2 = 0; rw [hrem]; exact nI_ne0 (by omega) (by omega)))) (fun _ => ?_)
        exact act 2
    · refine e_walk (stops := [75]) 60 ?_
      refine And.intro (fun z => absurd z (nI_ge (b := 50) (by omega) (by decide))) (fun _ => ?_)
      refine And.intro (fun _ => ?_) (fun z => absurd (nI_le (a := 8) (by omega) (by omega)) z)
      refine And.intro ⟨2 * e, by omega, by show [aR 23 0, aI (nI 2 * nI e)] = _; rw [nI_mul]⟩ (fun x => ?_)
      exact act x
/-- from 7 on: the object is made -/
theorem law_run (hp : ∀ S, post (some (aI 1)) S) (hY : z_Y 0 S q_v0 d) (bc bs : Nat) (hb : 138121 ≤ bc) (hs : 6444726 ≤ bs) : e_Run (tb_LB L xs) post e_no 7 [some (aR 23 0), none, none, none] [aR 0 0] S bc bs := by
  have hA := z_A0
  refine e_walk (stops := [12]) 60 ?_
  refine And.intro (by omega) (And.intro (by omega) ?_)
  refine L_holds hY hA.1 hA.2.1 (by decide) (fun S2 hY => ?_)
  refine e_walk (stops := [19]) 60 ?_
  refine And.intro (fun z => absurd z (by decide)) (fun _ => ?_)
  refine l_bestMarch hY hA.1 (fun S3 hY => ?_)
  refine e_walk (stops := [27]) 60 ?_
  refine And.intro (fun _ => ?_) (fun z => absurd (by decide +kernel) z)
  refine And.intro (by omega) (And.intro (by omega) ?_)
  refine m_most (m := 3) (r := 0) hY hA.1 (by decide) (by decide +kernel) (fun S4 hY => ?_)
  refine e_walk (stops := [35]) 60 ?_
  refine And.intro (fun _ => ?_) (fun z => absurd (rfl) z)
  refine And.intro (by omega) (And.intro (by omega) ?_)
  refine L_isText (m := 2) hY hA.1 (by decide) (fun S5 hY => ?_)
  refine e_walk (stops := [42]) 60 ?_
  refine And.intro (fun z => absurd z (by decide)) (fun _ => ?_)
  exact law_loop hp 50 0 rfl S5 q_v0 0 0 0 d _ _ _ hY hA (by omega) (by omega)
/-- nothing is there yet -/
def q_S0 : eM := (fun _ _ _ => 0, fun _ _ _ => none, fun _ _ _ => 0, [], fun _ _ => 0)
/-- final references are there -/
def q_refs (S : eM) : Prop := ∀ k i j q, (k, i) ∈ mP S → j < e_pl (k, i) → e_rf k i j = some q → mR S k i j = some q
theorem q_nwz {k i a j : Nat} : mI (e_nw S k i a) k i j = 0 := by
  show (if k = k ∧ i = i then fun _ => 0 else mI S k i) j = 0
  rw [if_pos ⟨rfl, rfl⟩]
theorem q_nwp {k i a : Nat} {q : Nat × Nat} (h : q ∈ mP (e_nw S k i a)) : q ∈ mP S ∨ q = (k, i) := (List.mem_append.mp h).imp id List.mem_singleton.mp
/-- the making is over -/
def t_stop : eTr := fun Qc _ _ lc st S bc bs => lc = [some (aR 23 0), none, none, none] ∧ st = [aR 0 0] ∧ 138121 ≤ bc ∧ 6444726 ≤ bs ∧ Qc none S
def tb_LM (L : Nat) (xs : Nat → Int32) : eTb := tb_LA L xs ++ [(7, t_stop)]
theorem law_made {L : Nat} {xs : Nat → Int32} {post : eQ} (h : ∀ S, (∀ sv sp tx, q_Y S q_v0 sv 0 sp false tx 0 0) → q_refs S → post none S) : e_Run (tb_LM L xs) post e_no 0 [some (aR 23 0), none, none, none] [] q_S0 798679 6705430 := by
  refine e_walk (stops := [7]) 10 ?_
  refine ⟨0, 0, ⟨rfl, by decide, List.not_mem_nil, by decide, by decide⟩, fun a => ⟨by decide, by decide, q_X4_init (fun q hq => (q_nwp hq).elim (fun z => absurd z List.not_mem_nil) id) (fun j => q_nwz) (fun S2 i0 i1 hne hK => ?_)⟩⟩
  show e_Run (tb_LM L xs) post e_no 7 [some (aR 23 0), none, none, none] [aR 0 0] S2 (798679 - 1 - 207) (6705430 - 8 - 1411)
  refine e_walk (stops := []) 1 ?_
  exact ⟨rfl, rfl, Nat.le_of_ble_eq_true rfl, Nat.le_of_ble_eq_true rfl, h S2 (fun sv sp tx => hK.Y hne sv sp tx) hK.rf⟩
end LawLoop
