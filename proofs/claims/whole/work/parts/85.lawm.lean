/-! The law: what it makes. Own work. -/
section LawM
variable {S S1 S2 : eM} {v sp : qV} {sv : Nat → qV} {sn ln : Nat} {tk : Bool} {tx : Nat → Int32} {B : Nat}
theorem q_Y.cg (h : q_Y S v sv sn sp tk tx ln B) (f : ∀ k i, k < 13 → mI S2 k i = mI S k i ∧ mR S2 k i = mR S k i) : q_Y S2 v sv sn sp tk tx ln B := by
  obtain ⟨p, i, l, a, h1, h2, h3⟩ := h
  have e : ∀ k i, k < 13 → mI S2 k i = mI S k i := fun k i hk => (f k i hk).1
  have bq : ∀ b w p i l, q_B S b w p i l → q_B S2 b w p i l := fun b w p i l hb => by
    have e1 : ∀ i, mI S2 1 i = mI S 1 i := fun i => e 1 i (by decide)
    have e2 : ∀ i, mI S2 2 i = mI S 2 i := fun i => e 2 i (by decide)
    have e3 : ∀ i, mI S2 3 i = mI S 3 i := fun i => e 3 i (by decide)
    have e6 : ∀ i, mI S2 6 i = mI S 6 i := fun i => e 6 i (by decide)
    have e7 : ∀ i, mI S2 7 i = mI S 7 i := fun i => e 7 i (by decide)
    unfold q_B q_P q_I
    simp only [e1, e2, e3, e6, e7]
    exact hb
  have bb : ∀ b w, q_bb S b w B → q_bb S2 b w B := fun b w hb => by
    obtain ⟨p, i, l, g1, g2⟩ := hb
    exact ⟨p, i, l, bq _ _ _ _ _ g1, g2⟩
  obtain ⟨⟨h1a, h2a⟩, ⟨h3a, h4⟩, h5, ⟨h6, h7⟩, h8⟩ := h3
  exact ⟨p, i, l, a, bq _ _ _ _ _ h1, h2, ⟨by rw [e 0 0 (by decide)]; exact h1a, h2a⟩, ⟨fun k hk => ⟨by rw [(f 8 0 (by decide)).2]; exact (h3a k hk).1, (h3a k hk).2⟩, h4⟩, fun k hk => bb _ _ (h5 k hk), ⟨by rw [e 0 0 (by decide)]; exact h6, fun y => bb _ _ (h7 y)⟩, h8.eqm (fun i => ⟨e 10 i (by decide), e 11 i (by decide), (f 10 i (by decide)).2⟩)⟩
theorem q_nwn {k i a k2 i2 : Nat} (h : (k2, i2) ≠ (k, i)) : mI (e_nw S k i a) k2 i2 = mI S k2 i2 ∧ mR (e_nw S k i a) k2 i2 = mR S k2 i2 := by
  have z : ¬ (k2 = k ∧ i2 = i) := fun q => h (by rw [q.1, q.2])
  exact ⟨if_neg z, if_neg z⟩
theorem q_nwz {k i a j : Nat} : mI (e_nw S k i a) k i j = 0 := by
  show (if k = k ∧ i = i then fun _ => 0 else mI S k i) j = 0
  rw [if_pos ⟨rfl, rfl⟩]
theorem q_nwp {k i a : Nat} {q : Nat × Nat} (h : q ∈ mP (e_nw S k i a)) : q ∈ mP S ∨ q = (k, i) := (List.mem_append.mp h).imp id List.mem_singleton.mp
/-- nothing is there yet -/
def q_S0 : eM := (fun _ _ _ => 0, fun _ _ _ => none, fun _ _ _ => 0, [], fun _ _ => 0)
/-- final references are there -/
def q_refs (S : eM) : Prop := ∀ k i j q, (k, i) ∈ mP S → j < e_pl (k, i) → e_rf k i j = some q → mR S k i j = some q
/-- the making is over -/
def t_stop : eTr := fun Qc _ _ lc st S bc bs => lc = [some (aR 23 0), some (aR 0 0), some (aR 13 0), some (aR 15 0), none, none, none, none, none] ∧ st = [] ∧ 64 * 512 ≤ bc ∧ 4480 * 512 ≤ bs ∧ Qc none S
def tb_LM (L : Nat) (xs : Nat → Int32) : eTb := tb_LA L xs ++ [(20, t_stop)]
theorem q_K.kd {L : List (Nat × Nat)} {R : List ((Nat × Nat × Nat) × (Nat × Nat))} {T : List (Nat × Nat)} {m : Nat} (h : q_K S L m R T S1) (hL : ∀ q ∈ L, q.1 < 13) : ∀ q ∈ mP S1, q.1 < 13 := fun q hq => by
  rcases h.1 q hq with z | z | ⟨c, -, z⟩
  · exact hL q z
  · omega
  · unfold q_bn at z
    omega
theorem law_made {L : Nat} {xs : Nat → Int32} {post : eQ} (h : ∀ S, (∀ sv sp tx, q_Y S q_v0 sv 0 sp false tx 0 0 ∧ q_M S q_v0 sv 0 sp false tx 0) → q_refs S → post none S) : e_Run (tb_LM L xs) post e_no 0 [some (aR 23 0), none, none, none, none, none, none, none, none] [] q_S0 601024 7293034 := by
  refine e_walk (stops := [7]) 10 ?_
  refine ⟨0, 0, ⟨rfl, by decide, List.not_mem_nil, by decide, by decide⟩, fun a => ⟨by decide, by decide, q_X4_init (fun q hq => (q_nwp hq).elim (fun z => absurd z List.not_mem_nil) id) (fun j => q_nwz) (fun S2 i0 i1 hne hK => ?_)⟩⟩
  have hk2 : ∀ q ∈ mP S2, q.1 < 13 := hK.kd (by decide)
  show e_Run (tb_LM L xs) post e_no 7 [some (aR 23 0), none, none, none, none, none, none, none, none] [aR 0 0] S2 (601024 - 1 - 207) (7293034 - 8 - 1411)
  refine e_walk (stops := [15]) 10 ?_
  refine ⟨13, 0, ⟨rfl, by decide, fun z => absurd (hk2 _ z) (by decide), by decide, by decide⟩, fun a2 => ⟨by decide, by decide, q_X5_init (fun q hq => ?_) (fun j => q_nwz) (fun S3 g1 g2 g3 g4 g5 => ?_)⟩⟩
  · rcases q_nwp hq with z | rfl
    · have := hk2 _ z
      omega
    · decide
  show e_Run (tb_LM L xs) post e_no 15 [some (aR 23 0), some (aR 0 0), none, none, none, none, none, none, none] [aR 13 0] S3 (601024 - 1 - 207 - 1 - 6) (7293034 - 8 - 1411 - 16 - 1378)
  have hk3 : ∀ q ∈ mP S3, q.1 < 13 ∧ q ∈ mP S2 ∨ q = (13, 0) ∨ q.1 = 14 := fun q hq => by
    rcases g2 q hq with z | z
    · rcases q_nwp z with z | z
      · exact Or.inl ⟨hk2 _ z, z⟩
      · exact Or.inr (Or.inl z)
    · exact Or.inr (Or.inr z)
  refine e_walk (stops := []) 10 ?_
  refine ⟨15, 0, ⟨by decide, by decide, rfl, by decide, by decide, fun z => ?_, by decide, by decide⟩, fun a3 => ⟨rfl, rfl, by decide, by decide, h _ (fun sv sp tx => ⟨?_, ?_⟩) ?_⟩⟩
  · rcases hk3 _ z with z | z | z
    · exact absurd z.1 (by decide)
    · cases z
    · exact absurd z (by decide)
  · refine (hK.Y hne sv sp tx).cg (fun k i hk => ?_)
    have n1 := q_nwn (S := S3) (k := 15) (i := 0) (a := a3) (k2 := k) (i2 := i) (fun z => by cases z; omega)
    have n2 := g1 k i (by omega) (by omega)
    have n3 := q_nwn (S := S2) (k := 13) (i := 0) (a := a2) (k2 := k) (i2 := i) (fun z => by cases z; omega)
    exact ⟨n1.1.trans (n2.1.trans n3.1), n1.2.trans (n2.2.1.trans n3.2)⟩
  · have z := g4 sv sp tx
    unfold q_M at z ⊢
    have n : ∀ k i, k < 15 → mI (e_nw S3 15 0 a3) k i = mI S3 k i := fun k i hk => (q_nwn (S := S3) (k := 15) (i := 0) (a := a3) (k2 := k) (i2 := i) (fun z => by cases z; omega)).1
    simp only [n 14 0 (by decide), n 13 0 (by decide), n 14 1 (by decide), n 14 2 (by decide), n 14 4 (by decide)]
    exact z
  · intro k i j q hm hj hq
    rcases q_nwp hm with hm | hm
    · have n1 := (q_nwn (S := S3) (k := 15) (i := 0) (a := a3) (k2 := k) (i2 := i) (fun z => by
        rcases hk3 _ hm with y | y | y
        · rw [z] at y; exact absurd y.1 (by decide)
        · rw [z] at y; cases y
        · rw [z] at y; exact absurd y (by decide))).2
      rw [n1]
      rcases hk3 _ hm with ⟨y1, y2⟩ | y | y
      · have y1 : k < 13 := y1
        have n2 := g1 k i (by omega) (by omega)
        have n3 := q_nwn (S := S2) (k := 13) (i := 0) (a := a2) (k2 := k) (i2 := i) (fun z => by cases z; omega)
        rw [n2.2.1, n3.2]
        exact hK.rf k i j q y2 hj hq
      · cases y
        have hj : j < 16 := hj
        rcases (show j = 0 ∨ j = 1 ∨ j = 3 ∨ j = 5 ∨ j = 6 ∨ j = 9 ∨ (j ≠ 0 ∧ j ≠ 1 ∧ j ≠ 3 ∧ j ≠ 5 ∧ j ≠ 6 ∧ j ≠ 9) by omega) with rfl | rfl | rfl | rfl | rfl | rfl | z
        · cases hq; exact g3 0 (by decide)
        · cases hq; exact g3 1 (by decide)
        · cases hq; exact g3 2 (by decide)
        · cases hq; exact g3 3 (by decide)
        · cases hq; exact g3 4 (by decide)
        · cases hq; exact g3 5 (by decide)
        · rcases (show j = 2 ∨ j = 4 ∨ j = 7 ∨ j = 8 ∨ j = 10 ∨ j = 11 ∨ j = 12 ∨ j = 13 ∨ j = 14 ∨ j = 15 by omega) with rfl | rfl | rfl | rfl | rfl | rfl | rfl | rfl | rfl | rfl <;> cases hq
      · have y : k = 14 := y
        subst y
        cases hq
    · cases hm
      cases hq
end LawM
