/-! What the law asks of the class, told of its row alone. Own work. -/
section ZLooks
variable {S S1 S2 : eM} {post : eQ} {v v2 : qV} {B n np ni nl : Nat}
/-- what a system holds beside its present row: saved rows, the snapshot, the buffer -/
abbrev z_D : Type := (Nat → qV) × Nat × qV × Bool × (Nat → Int32) × Nat
def z_Y (n : Nat) (S : eM) (v : qV) (d : z_D) : Prop := q_Y S v d.1 d.2.1 d.2.2.1 d.2.2.2.1 d.2.2.2.2.1 d.2.2.2.2.2 n
/-- behind a change -/
def z_nx (d : z_D) (v : qV) : z_D := (q_sv d.1 d.2.1 v, min d.2.1 5 + 1, d.2.2)
variable {d : z_D}
theorem z_Y.mono {m : Nat} (h : z_Y n S v d) (hm : n ≤ m) : z_Y m S v d := q_Y.mono h hm
theorem z_Y.go (h : z_Y n S v d) (hi : q_inv n v np ni nl) : ∃ a, q_B S 0 v np ni nl ∧ q_ho S d.1 d.2.1 d.2.2.1 d.2.2.2.1 d.2.2.2.2.1 d.2.2.2.2.2 n a := by
  obtain ⟨p, i, l, a, hB, hi2, hR⟩ := h
  obtain ⟨g1, g2, g3, g4, g5, g6⟩ := hi2.1
  obtain ⟨k1, k2, k3, k4, k5, k6⟩ := hi.1
  obtain rfl : p = np := (nI_eq (by omega) (by omega)).mp (g4.symm.trans k4)
  obtain rfl : i = ni := (nI_eq (by omega) (by omega)).mp (g5.symm.trans k5)
  obtain rfl : l = nl := (nI_eq (by omega) (by omega)).mp (g6.symm.trans k6)
  exact ⟨a, hB, hR⟩
theorem z_tl {e : Nat} {r : Int32} {c1 c2 : String} (he : e = 0) (h : ∀ S2, z_Y n S2 v d → post (some (aI r)) S2) : q_tlc S v d.1 d.2.1 d.2.2.1 d.2.2.2.1 d.2.2.2.2.1 d.2.2.2.2.2 n post e_no e c1 c2 r :=
  ⟨fun z => absurd (he.symm.trans z) (by decide), fun z => absurd (he.symm.trans z) (by decide), fun _ S2 _ y => h S2 y⟩
theorem z_cf {e : Nat} {r : Int32} {c1 c2 : String} {X : eX} {m : Nat} (he : e = 0) (h : ∀ S2, z_Y m S2 v2 (z_nx d v) → post (some (aI r)) S2) : q_cft S v d.1 d.2.1 d.2.2.1 d.2.2.2.1 d.2.2.2.2.1 d.2.2.2.2.2 m post X e c1 c2 r v2 :=
  ⟨fun z => absurd (he.symm.trans z) (by decide), fun z => absurd (he.symm.trans z) (by decide), fun _ S2 _ y => h S2 y⟩
theorem z_cf2 {e : Nat} {r : Int32} {c1 c2 : String} {X : eX} {m : Nat} (he : e = 2) (h : X c2 S) : q_cft S v d.1 d.2.1 d.2.2.1 d.2.2.2.1 d.2.2.2.2.1 d.2.2.2.2.2 m post X e c1 c2 r v2 :=
  ⟨fun z => absurd (he.symm.trans z) (by decide), fun _ => h, fun z => absurd (he.symm.trans z) (by decide)⟩
theorem l_pupilOf {p w : Nat} (hY : z_Y n S v d) (hi : q_inv n v np ni nl) (hp : p < np) (hw : w < 7) (h : ∀ S2, z_Y n S2 v d → post (some (aI (q_pTold v p w))) S2) : nw_X4_pupilOf [aR 0 0, aI (nI p), aI (nI w)] S post := by
  obtain ⟨a, hB, hR⟩ := hY.go hi
  have hnp := hi.1.1
  refine q_X4_pupilOf hB hi hR (z_tl ?_ ?_)
  · unfold q_pOfE
    rw [q_ix_mk (by omega) hp, q_ix_mk (by decide) hw]; rfl
  · rw [nI_clamp (by omega), nI_clamp (by omega)]; exact h
theorem l_instrumentOf {i w : Nat} (hY : z_Y n S v d) (hi : q_inv n v np ni nl) (ii : i < ni) (hw : w < 6) (h : ∀ S2, z_Y n S2 v d → post (some (aI (q_iTold v i w))) S2) : nw_X4_instrumentOf [aR 0 0, aI (nI i), aI (nI w)] S post := by
  obtain ⟨a, hB, hR⟩ := hY.go hi
  have hni := hi.1.2.1
  refine q_X4_instrumentOf hB hi hR (z_tl ?_ ?_)
  · unfold q_iOfE
    rw [q_ix_mk (by omega) ii, q_ix_mk (by decide) hw]; rfl
  · rw [nI_clamp (by omega), nI_clamp (by omega)]; exact h
theorem l_loan {k : Nat} (hY : z_Y n S v d) (hi : q_inv n v np ni nl) (hk : k < 65536) (h : ∀ S2, z_Y n S2 v d → post (some (aI (q_lTold v k))) S2) : nw_X4_loan [aR 0 0, aI (nI k)] S post := by
  obtain ⟨a, hB, hR⟩ := hY.go hi
  refine q_X4_loan hB hi hR (z_tl ?_ ?_)
  · unfold q_loanE
    rw [if_neg (nI_pos (by omega))]
  · rw [nI_clamp (by omega)]; exact h
theorem l_part {m k w : Nat} (hY : z_Y n S v d) (hi : q_inv n v np ni nl) (hm : m < 4) (hk : k < 4) (hw : w < 4) (h : ∀ S2, z_Y n S2 v d → post (some (aI (q_partTold v m np k w))) S2) : nw_X4_part [aR 0 0, aI (nI m), aI (nI k), aI (nI w)] S post := by
  obtain ⟨a, hB, hR⟩ := hY.go hi
  refine q_X4_part hB hi hR (z_tl ?_ ?_)
  · unfold q_partE
    rw [q_ix_mk (by decide) hm, q_ix_mk (by decide) hk, q_ix_mk (by decide) hw]; rfl
  · rw [nI_clamp (by omega), nI_clamp (by omega), nI_clamp (by omega)]; exact h
theorem l_count {w : Nat} (hY : z_Y n S v d) (hi : q_inv n v np ni nl) (hw : w < 19) (h : ∀ S2, z_Y n S2 v d → post (some (aI (q_cTold v np d.2.1 w))) S2) : nw_X4_count [aR 0 0, aI (nI w)] S post := by
  obtain ⟨a, hB, hR⟩ := hY.go hi
  refine q_X4_count hB hi hR (z_tl ?_ ?_)
  · unfold q_countE
    rw [q_ix_mk (by decide) hw]; rfl
  · rw [nI_clamp (by omega)]; exact h
theorem l_noLoan {i p : Nat} (hY : z_Y n S v d) (hi : q_inv n v np ni nl) (ii : i < ni) (hp : p < np) (h : ∀ S2, z_Y n S2 v d → post (some (aI (nI (q_whyLoan v i p)))) S2) : nw_X4_noLoan [aR 0 0, aI (nI i), aI (nI p)] S post := by
  obtain ⟨a, hB, hR⟩ := hY.go hi
  have hnp := hi.1.1
  have hni := hi.1.2.1
  refine q_X4_noLoan hB hi hR (z_tl ?_ ?_)
  · unfold q_noLoanE
    rw [q_ix_mk (by omega) ii, q_ix_mk (by omega) hp]; rfl
  · rw [nI_clamp (by omega), nI_clamp (by omega)]; exact h
theorem l_noLesson {p t : Nat} (hY : z_Y n S v d) (hi : q_inv n v np ni nl) (hp : p < np) (ht : t < 3) (h : ∀ S2, z_Y n S2 v d → post (some (aI (nI (q_whyLesson v p t)))) S2) : nw_X4_noLesson [aR 0 0, aI (nI p), aI (nI t)] S post := by
  obtain ⟨a, hB, hR⟩ := hY.go hi
  have hnp := hi.1.1
  refine q_X4_noLesson hB hi hR (z_tl ?_ ?_)
  · unfold q_noLessonE
    rw [q_ix_mk (by omega) hp, q_ix_mk (by decide) ht]; rfl
  · rw [nI_clamp (by omega), nI_clamp (by omega)]; exact h
theorem z_marE {m : Nat} (hm : m < 4) : q_marE (nI m) = 0 := by
  unfold q_marE
  rw [q_ix_mk (by decide) hm]; rfl
theorem l_shortOf {m : Nat} (hY : z_Y n S v d) (hi : q_inv n v np ni nl) (hm : m < 4) (h : ∀ S2, z_Y n S2 v d → post (some (aI (nI (q_sh v m np 4)))) S2) : nw_X4_shortOf [aR 0 0, aI (nI m)] S post := by
  obtain ⟨a, hB, hR⟩ := hY.go hi
  refine q_X4_shortOf hB hi hR (z_tl (z_marE hm) ?_)
  rw [nI_clamp (by omega)]; exact h
theorem l_most {m : Nat} (hY : z_Y n S v d) (hi : q_inv n v np ni nl) (hm : m < 4) (h : ∀ S2, z_Y n S2 v d → post (some (aI (q_mos v m np 16))) S2) : nw_X4_most [aR 0 0, aI (nI m)] S post := by
  obtain ⟨a, hB, hR⟩ := hY.go hi
  refine q_X4_most hB hi hR (z_tl (z_marE hm) ?_)
  rw [nI_clamp (by omega)]; exact h
theorem l_helps {m t : Nat} (hY : z_Y n S v d) (hi : q_inv n v np ni nl) (hm : m < 4) (ht : t < 3) (h : ∀ S2, z_Y n S2 v d → post (some (aI (q_hl v m np t np 0))) S2) : nw_X4_helps [aR 0 0, aI (nI m), aI (nI t)] S post := by
  obtain ⟨a, hB, hR⟩ := hY.go hi
  refine q_X4_helps hB hi hR (z_tl ?_ ?_)
  · unfold q_helpsE
    rw [q_ix_mk (by decide) hm, q_ix_mk (by decide) ht]; rfl
  · rw [nI_clamp (by omega), nI_clamp (by omega)]; exact h
theorem l_told {m k : Nat} (hY : z_Y n S v d) (hi : q_inv n v np ni nl) (hm : m < 4) (hk : k < 65536) (h : ∀ S2, z_Y n S2 v d → post (some (aI (q_ch v m np 4 0 k))) S2) : nw_X4_told [aR 0 0, aI (nI m), aI (nI k)] S post := by
  obtain ⟨a, hB, hR⟩ := hY.go hi
  refine q_X4_told hB hi hR (z_tl ?_ ?_)
  · unfold q_toldE
    rw [q_ix_mk (by decide) hm, if_neg (nI_pos (by omega))]; rfl
  · rw [nI_clamp (by omega), nI_clamp (by omega)]; exact h
theorem l_bestMarch (hY : z_Y n S v d) (hi : q_inv n v np ni nl) (h : ∀ S2, z_Y n S2 v d → post (some (aI (nI (q_bs v np 4)))) S2) : w_X4_bestMarch [aR 0 0] S post := by
  obtain ⟨a, hB, hR⟩ := hY.go hi
  exact q_X4_bestMarchY hB hi hR (fun S2 _ y => h S2 y)
theorem l_played {mm ss : Nat} (hY : z_Y n S v d) (hi : q_inv n v np ni nl) (h6 : v 6 = nI mm) (h7 : v 7 = nI ss) (hs : ss ≤ 4 * mm) (hm : 4 * mm < 2 ^ 20) (h : post (some (aD (q_shr mm ss))) S) : w_X4_played [aR 0 0] S post := by
  obtain ⟨a, hB, hR⟩ := hY.go hi
  exact q_X4_played hB h6 h7 hs hm h
-- the same, with the answer in the words that are wanted
theorem m_pupilOf {p w : Nat} {r : Int32} (hY : z_Y n S v d) (hi : q_inv n v np ni nl) (hp : p < np) (hw : w < 7) (e : q_pTold v p w = r) (h : ∀ S2, z_Y n S2 v d → post (some (aI r)) S2) : nw_X4_pupilOf [aR 0 0, aI (nI p), aI (nI w)] S post := l_pupilOf hY hi hp hw (by rw [e]; exact h)
theorem m_instrumentOf {i w : Nat} {r : Int32} (hY : z_Y n S v d) (hi : q_inv n v np ni nl) (ii : i < ni) (hw : w < 6) (e : q_iTold v i w = r) (h : ∀ S2, z_Y n S2 v d → post (some (aI r)) S2) : nw_X4_instrumentOf [aR 0 0, aI (nI i), aI (nI w)] S post := l_instrumentOf hY hi ii hw (by rw [e]; exact h)
theorem m_loan {k : Nat} {r : Int32} (hY : z_Y n S v d) (hi : q_inv n v np ni nl) (hk : k < 65536) (e : q_lTold v k = r) (h : ∀ S2, z_Y n S2 v d → post (some (aI r)) S2) : nw_X4_loan [aR 0 0, aI (nI k)] S post := l_loan hY hi hk (by rw [e]; exact h)
theorem m_part {m k w : Nat} {r : Int32} (hY : z_Y n S v d) (hi : q_inv n v np ni nl) (hm : m < 4) (hk : k < 4) (hw : w < 4) (e : q_partTold v m np k w = r) (h : ∀ S2, z_Y n S2 v d → post (some (aI r)) S2) : nw_X4_part [aR 0 0, aI (nI m), aI (nI k), aI (nI w)] S post := l_part hY hi hm hk hw (by rw [e]; exact h)
theorem m_count {w : Nat} {r : Int32} (hY : z_Y n S v d) (hi : q_inv n v np ni nl) (hw : w < 19) (e : q_cTold v np d.2.1 w = r) (h : ∀ S2, z_Y n S2 v d → post (some (aI r)) S2) : nw_X4_count [aR 0 0, aI (nI w)] S post := l_count hY hi hw (by rw [e]; exact h)
theorem m_noLoan {i p : Nat} {r : Int32} (hY : z_Y n S v d) (hi : q_inv n v np ni nl) (ii : i < ni) (hp : p < np) (e : nI (q_whyLoan v i p) = r) (h : ∀ S2, z_Y n S2 v d → post (some (aI r)) S2) : nw_X4_noLoan [aR 0 0, aI (nI i), aI (nI p)] S post := l_noLoan hY hi ii hp (by rw [e]; exact h)
theorem m_noLesson {p t : Nat} {r : Int32} (hY : z_Y n S v d) (hi : q_inv n v np ni nl) (hp : p < np) (ht : t < 3) (e : nI (q_whyLesson v p t) = r) (h : ∀ S2, z_Y n S2 v d → post (some (aI r)) S2) : nw_X4_noLesson [aR 0 0, aI (nI p), aI (nI t)] S post := l_noLesson hY hi hp ht (by rw [e]; exact h)
theorem m_shortOf {m : Nat} {r : Int32} (hY : z_Y n S v d) (hi : q_inv n v np ni nl) (hm : m < 4) (e : nI (q_sh v m np 4) = r) (h : ∀ S2, z_Y n S2 v d → post (some (aI r)) S2) : nw_X4_shortOf [aR 0 0, aI (nI m)] S post := l_shortOf hY hi hm (by rw [e]; exact h)
theorem m_most {m : Nat} {r : Int32} (hY : z_Y n S v d) (hi : q_inv n v np ni nl) (hm : m < 4) (e : q_mos v m np 16 = r) (h : ∀ S2, z_Y n S2 v d → post (some (aI r)) S2) : nw_X4_most [aR 0 0, aI (nI m)] S post := l_most hY hi hm (by rw [e]; exact h)
theorem m_helps {m t : Nat} {r : Int32} (hY : z_Y n S v d) (hi : q_inv n v np ni nl) (hm : m < 4) (ht : t < 3) (e : q_hl v m np t np 0 = r) (h : ∀ S2, z_Y n S2 v d → post (some (aI r)) S2) : nw_X4_helps [aR 0 0, aI (nI m), aI (nI t)] S post := l_helps hY hi hm ht (by rw [e]; exact h)
theorem m_told {m k : Nat} {r : Int32} (hY : z_Y n S v d) (hi : q_inv n v np ni nl) (hm : m < 4) (hk : k < 65536) (e : q_ch v m np 4 0 k = r) (h : ∀ S2, z_Y n S2 v d → post (some (aI r)) S2) : nw_X4_told [aR 0 0, aI (nI m), aI (nI k)] S post := l_told hY hi hm hk (by rw [e]; exact h)
-- changes
theorem l_pupil {a : Nat} (hY : z_Y n S v d) (hi : q_inv n v np ni nl) (hn : np < 10) (ha : 5 ≤ a) (hb : a ≤ 30) (h : ∀ S2, z_Y n S2 (q_pupil v np (nI a)) (z_nx d v) → post (some (aI (nI np))) S2) : nw_X4_pupil [aR 0 0, aI (nI a)] S post := by
  obtain ⟨a2, hB, hR⟩ := hY.go hi
  refine q_X4_pupil hB hi hR (z_cf ?_ h)
  unfold q_pupilE
  rw [q_rg_t (lo := 5) (hi := 30) (x := nI a) (nI_nlt (a := a) (b := 5) ha (by omega)) (nI_le (b := 30) hb (by decide)), decide_eq_false (show ¬ np = 10 by omega)]; rfl
theorem l_instrument {k : Nat} (hY : z_Y n S v d) (hi : q_inv n v np ni nl) (hn : ni < 10) (hk : k < 4) (h : ∀ S2, z_Y n S2 (q_inst v ni (nI k)) (z_nx d v) → post (some (aI (nI ni))) S2) : nw_X4_instrument [aR 0 0, aI (nI k)] S post := by
  obtain ⟨a2, hB, hR⟩ := hY.go hi
  refine q_X4_instrument hB hi hR (z_cf ?_ h)
  unfold q_instE
  rw [q_rg_t (lo := 0) (hi := 3) (x := nI k) (nI_nlt (a := k) (b := 0) (by omega) (by omega)) (nI_le (b := 3) (by omega) (by decide)), decide_eq_false (show ¬ ni = 10 by omega)]; rfl
theorem l_dent {i t : Nat} (hY : z_Y n S v d) (hi : q_inv n v np ni nl) (ii : i < ni) (h1 : 1 ≤ t) (h9 : t ≤ 9) (h : ∀ S2, z_Y n S2 (q_dents v i (nI t)) (z_nx d v) → post (some (aI (q_dn v i (nI t)))) S2) : nw_X4_dent [aR 0 0, aI (nI i), aI (nI t)] S post := by
  obtain ⟨a2, hB, hR⟩ := hY.go hi
  have hni := hi.1.2.1
  refine q_X4_dent hB hi hR (z_cf ?_ ?_)
  · unfold q_dentE
    rw [q_ix_mk (by omega) ii, q_rg_t (lo := 1) (hi := 9) (x := nI t) (nI_nlt (a := t) (b := 1) h1 (by omega)) (nI_le (b := 9) h9 (by decide))]; rfl
  · rw [nI_clamp (by omega)]; exact h
theorem l_pay {p a : Nat} (hY : z_Y n S v d) (hi : q_inv n v np ni nl) (hp : p < np) (h1 : 1 ≤ a) (h9 : a ≤ 999) (h : ∀ S2, z_Y n S2 (q_pay v p (nI a)) (z_nx d v) → post (some (aI (q_pays v p (nI a)))) S2) : nw_X4_pay [aR 0 0, aI (nI p), aI (nI a)] S post := by
  obtain ⟨a2, hB, hR⟩ := hY.go hi
  have hnp := hi.1.1
  refine q_X4_pay hB hi hR (z_cf ?_ ?_)
  · unfold q_payE
    rw [q_ix_mk (by omega) hp, q_rg_t (lo := 1) (hi := 999) (x := nI a) (nI_nlt (a := a) (b := 1) h1 (by omega)) (nI_le (b := 999) h9 (by decide))]; rfl
  · rw [nI_clamp (by omega)]; exact h
theorem l_set {k y : Nat} (hY : z_Y n S v d) (hi : q_inv n v np ni nl) (hk : k < 3) (hy : y ≤ if k = 0 then 50 else if k = 1 then 200 else 99) (h : ∀ S2, z_Y n S2 (upd v (13 + k) (nI y)) (z_nx d v) → post (some (aI (v (13 + k)))) S2) : nw_X4_set [aR 0 0, aI (nI k), aI (nI y)] S post := by
  obtain ⟨a2, hB, hR⟩ := hY.go hi
  refine q_X4_set hB hi hR (z_cf ?_ ?_)
  · unfold q_setE
    rw [q_ix_mk (by decide) hk]
    rcases (show k = 0 ∨ k = 1 ∨ k = 2 by omega) with rfl | rfl | rfl
    · have hy : y ≤ 50 := hy
      rw [if_pos (by decide), q_rg_t (lo := 0) (hi := 50) (x := nI y) (nI_nlt (a := y) (b := 0) (by omega) (by omega)) (nI_le (b := 50) hy (by decide))]; rfl
    · have hy : y ≤ 200 := hy
      rw [if_neg (by decide), if_pos (by decide), q_rg_t (lo := 0) (hi := 200) (x := nI y) (nI_nlt (a := y) (b := 0) (by omega) (by omega)) (nI_le (b := 200) hy (by decide))]; rfl
    · have hy : y ≤ 99 := hy
      rw [if_neg (by decide), if_neg (by decide), q_rg_t (lo := 0) (hi := 99) (x := nI y) (nI_nlt (a := y) (b := 0) (by omega) (by omega)) (nI_le (b := 99) hy (by decide))]; rfl
  · rw [nI_clamp (by omega)]; exact h
theorem l_pass {a : Nat} (hY : z_Y n S v d) (hi : q_inv n v np ni nl) (h1 : 1 ≤ a) (h9 : a ≤ 30) (h : ∀ S2, z_Y n S2 (q_ps v (nI a) np) (z_nx d v) → post (some (aI (v 3 + nI a))) S2) : nw_X4_pass [aR 0 0, aI (nI a)] S post := by
  obtain ⟨a2, hB, hR⟩ := hY.go hi
  refine q_X4_pass hB hi hR (z_cf ?_ h)
  unfold q_passE
  rw [q_rg_t (lo := 1) (hi := 30) (x := nI a) (nI_nlt (a := a) (b := 1) h1 (by omega)) (nI_le (b := 30) h9 (by decide))]; rfl
theorem l_keep (hY : z_Y n S v d) (hi : q_inv n v np ni nl) (h : ∀ S2, z_Y n S2 v (d.1, d.2.1, v, true, d.2.2.2.2) → post (some (aI (v 3))) S2) : w_X4_keep [aR 0 0] S post := by
  obtain ⟨a2, hB, hR⟩ := hY.go hi
  exact q_X4_keep hB hi hR (fun S2 _ y => h S2 y)
theorem l_undo {u : qV} (hY : z_Y n S v (z_nx d u)) (hi : q_inv n v np ni nl) (h : ∀ S2, z_Y n S2 (q_cp u v) (q_sv d.1 d.2.1 u, min d.2.1 5, d.2.2) → post (some (aI (nI (min d.2.1 5)))) S2) : nw_X4_undo [aR 0 0] S post := by
  obtain ⟨a2, hB, hR⟩ := hY.go hi
  refine q_X4_undo hB hi hR (fun z => absurd z (Nat.succ_ne_zero _)) (fun _ S2 _ y => ?_)
  have e : q_sv d.1 d.2.1 u (min d.2.1 5) = u := if_neg (Nat.lt_irrefl _)
  have y : q_Y S2 (q_cp (q_sv d.1 d.2.1 u (min d.2.1 5)) v) (q_sv d.1 d.2.1 u) (min d.2.1 5) d.2.2.1 d.2.2.2.1 d.2.2.2.2.1 d.2.2.2.2.2 n := y
  rw [e] at y
  exact h S2 y
theorem l_restore {u : qV} {sv : Nat → qV} {sn : Nat} {tl : (Nat → Int32) × Nat} (hY : z_Y n S v (sv, sn, u, true, tl)) (hi : q_inv n v np ni nl) (h : ∀ S2 d2, z_Y n S2 (q_cp u v) d2 → post (some (aI (u 3))) S2) : nw_X4_restore [aR 0 0] S post := by
  obtain ⟨a2, hB, hR⟩ := hY.go hi
  exact q_X4_restore hB hi hR (fun z => Bool.noConfusion z) (fun _ S2 _ y => h S2 (z_nx (sv, sn, u, true, tl) v) y)
-- what may be refused
theorem l_tryLend {i p : Nat} (hY : z_Y n S v d) (hi : q_inv n v np ni nl) (ii : i < ni) (hp : p < np) (h0 : q_whyLoan v i p = 0 → ∀ S2, z_Y n S2 (q_lend v nl i p) (z_nx d v) → post (some (aI (nI (nl + 1)))) S2) (h2 : 0 < q_whyLoan v i p → post (some (aI (-7002))) S) : w_L_tryLend [aR 0 0, aI (nI i), aI (nI p)] S post := by
  obtain ⟨a2, hB, hR⟩ := hY.go hi
  have hnp := hi.1.1
  have hni := hi.1.2.1
  refine q_L_tryLend (fun P X g1 g2 g0 => ?_)
  have hE : q_lendE v np ni (nI i) (nI p) = if 0 < q_whyLoan v i p then 2 else 0 := by
    unfold q_lendE
    rw [q_ix_mk (by omega) ii, q_ix_mk (by omega) hp, nI_clamp (by omega), nI_clamp (by omega)]; rfl
  by_cases c : 0 < q_whyLoan v i p
  · exact q_X4_lend hB hi hR (z_cf2 (hE.trans (if_pos c)) (g2 _ (h2 c)))
  · refine q_X4_lend hB hi hR (z_cf (hE.trans (if_neg c)) (fun S2 y => g0 _ _ (h0 (by omega) S2 ?_)))
    rw [nI_clamp (by omega), nI_clamp (by omega)] at y
    exact y
theorem l_tryBack {i : Nat} (hY : z_Y n S v d) (hi : q_inv n v np ni nl) (ii : i < ni) (h0 : ∀ p, p < np → q_its v i 2 = nI (p + 1) → ∀ S2, z_Y n S2 (q_back v nl i p) (z_nx d v) → post (some (aI (v 13 * q_its v i 4))) S2) (h2 : q_its v i 2 = 0 → post (some (aI (-7002))) S) : w_L_tryBack [aR 0 0, aI (nI i)] S post := by
  obtain ⟨a2, hB, hR⟩ := hY.go hi
  have hnp := hi.1.1
  have hni := hi.1.2.1
  refine q_L_tryBack (fun P X g1 g2 g0 => ?_)
  have hE : q_backE v ni (nI i) = if q_its v i 2 = 0 then 2 else 0 := by
    unfold q_backE
    rw [q_ix_mk (by omega) ii, nI_clamp (by omega)]; rfl
  by_cases c : q_its v i 2 = 0
  · exact q_X4_back hB hi hR (z_cf2 (hE.trans (if_pos c)) (g2 _ (h2 c)))
  · obtain ⟨k, dd, l, ⟨e1, e2, e3⟩, f, g⟩ := hi.2.2.1 i ii
    have hl : 0 < l := Nat.pos_of_ne_zero (fun z => c (by rw [e3, z]; rfl))
    refine q_X4_back hB hi hR (z_cf (hE.trans (if_neg c)) (fun S2 y => ?_))
    rw [nI_clamp (by omega)] at y ⊢
    rw [e3, nI_clamp (by omega)] at y
    exact g0 _ _ (h0 (l - 1) (by omega) (by rw [e3, show l - 1 + 1 = l by omega]) S2 y)
theorem l_tryMend {i : Nat} (hY : z_Y n S v d) (hi : q_inv n v np ni nl) (ii : i < ni) (h0 : ¬ 0 < q_its v i 2 → ∀ S2, z_Y n S2 (q_mend v i) (z_nx d v) → post (some (aI (15 * q_its v i 1))) S2) (h2 : 0 < q_its v i 2 → post (some (aI (-7002))) S) : w_L_tryMend [aR 0 0, aI (nI i)] S post := by
  obtain ⟨a2, hB, hR⟩ := hY.go hi
  have hni := hi.1.2.1
  refine q_L_tryMend (fun P X g1 g2 g0 => ?_)
  have hE : q_mendE v ni (nI i) = if 0 < q_its v i 2 then 2 else 0 := by
    unfold q_mendE
    rw [q_ix_mk (by omega) ii, nI_clamp (by omega)]; rfl
  by_cases c : 0 < q_its v i 2
  · exact q_X4_mend hB hi hR (z_cf2 (hE.trans (if_pos c)) (g2 _ (h2 c)))
  · refine q_X4_mend hB hi hR (z_cf (hE.trans (if_neg c)) (fun S2 y => ?_))
    rw [nI_clamp (by omega)] at y ⊢
    exact g0 _ _ (h0 c S2 y)
theorem l_tryTeach {p t : Nat} (hY : z_Y n S v d) (hi : q_inv n v np ni nl) (hp : p < np) (ht : t < 3) (h0 : q_whyLesson v p t = 0 → ∀ S2, z_Y n S2 (q_teach v p t) (z_nx d v) → post (some (aI (q_of v p 2 + 1))) S2) (h2 : 0 < q_whyLesson v p t → post (some (aI (-7002))) S) : w_L_tryTeach [aR 0 0, aI (nI p), aI (nI t)] S post := by
  obtain ⟨a2, hB, hR⟩ := hY.go hi
  have hnp := hi.1.1
  refine q_L_tryTeach (fun P X g1 g2 g0 => ?_)
  have hE : q_teachE v np (nI p) (nI t) = if 0 < q_whyLesson v p t then 2 else 0 := by
    unfold q_teachE
    rw [q_ix_mk (by omega) hp, q_ix_mk (by decide) ht, nI_clamp (by omega), nI_clamp (by omega)]; rfl
  by_cases c : 0 < q_whyLesson v p t
  · exact q_X4_teach hB hi hR (z_cf2 (hE.trans (if_pos c)) (g2 _ (h2 c)))
  · refine q_X4_teach hB hi hR (z_cf (hE.trans (if_neg c)) (fun S2 y => ?_))
    rw [nI_clamp (by omega), nI_clamp (by omega)] at y
    rw [nI_clamp (by omega)]
    exact g0 _ _ (h0 (by omega) S2 y)
theorem l_tryMarch {m : Nat} (hY : z_Y n S v d) (hi : q_inv n v np ni nl) (hm : m < 4) (h0 : (q_sun v && decide (¬ v 4 = 1)) = true → ∀ S2, z_Y (n + 1) S2 (q_march v m np) (z_nx d v) → post (some (aI (nI (q_sh v m np 4)))) S2) (h2 : (q_sun v && decide (¬ v 4 = 1)) = false → post (some (aI (-7002))) S) : w_L_tryMarch [aR 0 0, aI (nI m)] S post := by
  obtain ⟨a2, hB, hR⟩ := hY.go hi
  refine q_L_tryMarch (fun P X g1 g2 g0 => ?_)
  have hE : q_marchE v (nI m) = cond (q_sun v && decide (¬ v 4 = 1)) 0 2 := by
    unfold q_marchE
    rw [q_ix_mk (by decide) hm]; rfl
  cases c : q_sun v && decide (¬ v 4 = 1) with
  | false =>
    rw [c] at hE
    exact q_X4_march hB hi hR (z_cf2 hE (g2 _ (h2 c)))
  | true =>
    rw [c] at hE
    refine q_X4_march hB hi hR (z_cf hE (fun S2 y => ?_))
    rw [nI_clamp (by omega)] at y ⊢
    exact g0 _ _ (h0 c S2 y)
end ZLooks
