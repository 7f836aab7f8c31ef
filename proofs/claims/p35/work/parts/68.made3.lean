/-! What walks come to: the system made. Own work. -/
section Made3
variable {S S1 S2 : eM} {post : eQ} {b n a m : Nat} {L T : List (Nat × Nat)} {R : List ((Nat × Nat × Nat) × (Nat × Nat))}
def q_bd (S : eM) (c : Nat) : Prop := q_B S c q_v0 0 0 0 ∧ (mR S 1 c 0 = some (4, c) ∧ mR S 1 c 2 = some (5, c) ∧ mR S 1 c 4 = some (6, c) ∧ mR S 1 c 6 = some (7, c)) ∧ (∀ p, p < 10 → mR S 4 c p = some (2, 10 * c + p)) ∧ ∀ p, p < 10 → mR S 5 c p = some (3, 10 * c + p)
theorem q_bd.keep {c : Nat} (h : q_bd S c) (e : ∀ k i, q_bn c k i → mI S2 k i = mI S k i ∧ mR S2 k i = mR S k i) : q_bd S2 c := by
  have e1 := e 1 c (Or.inl ⟨rfl, rfl⟩)
  have e2 : ∀ p, p < 10 → mI S2 2 (10 * c + p) = mI S 2 (10 * c + p) := fun p hp => (e 2 _ (Or.inr (Or.inl ⟨Or.inl rfl, by omega⟩))).1
  have e4 := (e 4 c (Or.inr (Or.inr ⟨by omega, rfl⟩))).2
  have e5 := (e 5 c (Or.inr (Or.inr ⟨by omega, rfl⟩))).2
  have e6 := (e 6 c (Or.inr (Or.inr ⟨by omega, rfl⟩))).1
  have e7 := (e 7 c (Or.inr (Or.inr ⟨by omega, rfl⟩))).1
  obtain ⟨⟨q1, q2, q3, q4, q5, q6, q7⟩, g, g4, g5⟩ := h
  refine ⟨⟨by rw [e1.1]; exact q1, by rw [e1.1]; exact q2, by rw [e7]; exact q3, fun p hp => absurd hp (Nat.not_lt_zero p), fun i hi => absurd hi (Nat.not_lt_zero i), by rw [e6]; exact q6, fun p hp => by rw [e2 p hp]; exact q7 p hp⟩, by rw [e1.2]; exact g, by rw [e4]; exact g4, by rw [e5]; exact g5⟩
/-- the system half made: what there is, m bands, references set, builders -/
def q_K (S : eM) (L : List (Nat × Nat)) (m : Nat) (R : List ((Nat × Nat × Nat) × (Nat × Nat))) (T : List (Nat × Nat)) (S1 : eM) : Prop :=
  (∀ q, q ∈ mP S1 → q ∈ L ∨ q.1 = 11 ∨ ∃ c, c < m ∧ q_bn c q.1 q.2) ∧ (∀ c, c < m → q_bd S1 c) ∧ (∀ j, mI S1 0 0 j = 0) ∧ (∀ x, x ∈ R → (x.1.1 = 0 ∨ x.1.1 = 8 ∨ x.1.1 = 12) ∧ mR S1 x.1.1 x.1.2.1 x.1.2.2 = some x.2) ∧ (∀ t, t ∈ T → q_T1 S1 t.1 t.2 (fun _ => 0) 0) ∧ ∀ k i, 13 ≤ k → mI S1 k i = mI S k i ∧ mR S1 k i = mR S k i ∧ mL S1 k i = mL S k i
theorem q_K.band (h : q_K S L m R T S1) (hj : q_J m (e_nw S1 1 m a) 24 S2) : q_K S L (m + 1) R T S2 := by
  obtain ⟨h1, h2, h3, h4, h5, h6⟩ := h
  have out : ∀ k i, ¬ q_bn m k i → mI S2 k i = mI S1 k i ∧ mR S2 k i = mR S1 k i ∧ mL S2 k i = mL S1 k i := fun k i hk => by
    have e := hj.1 k i hk
    obtain ⟨n1, n2, n3⟩ := q_nw_ne (S := S1) (k := 1) (i := m) (a := a) (k2 := k) (i2 := i) (fun z => hk (Or.inl z))
    exact ⟨e.1.trans n1, e.2.1.trans n2, e.2.2.trans n3⟩
  have no : ∀ k i, k = 0 ∨ 8 ≤ k → ¬ q_bn m k i := fun k i hk z => by unfold q_bn at z; omega
  refine ⟨fun q hq => ?_, fun c hc => ?_, fun j => by rw [(out 0 0 (no _ _ (by omega))).1]; exact h3 j, fun x hx => ⟨(h4 x hx).1, by rw [(out _ _ (no _ _ (by have := (h4 x hx).1; omega))).2.1]; exact (h4 x hx).2⟩, fun t ht => ?_, fun k i hk => ?_⟩
  · rcases hj.2.1 q hq with z | z
    · rcases List.mem_append.mp (show q ∈ mP S1 ++ [(1, m)] from z) with z | z
      · rcases h1 q z with z | z | ⟨c, z1, z2⟩
        · exact Or.inl z
        · exact Or.inr (Or.inl z)
        · exact Or.inr (Or.inr ⟨c, by omega, z2⟩)
      · rw [List.mem_singleton] at z
        subst z
        exact Or.inr (Or.inr ⟨m, by omega, Or.inl ⟨rfl, rfl⟩⟩)
    · exact Or.inr (Or.inr ⟨m, by omega, z.1⟩)
  · by_cases c0 : c = m
    · subst c0
      obtain ⟨g1, g2, g3, g4⟩ := hj.2.2.2.1
      exact ⟨hj.B, ⟨g1 (by decide), g2 (by decide), g3 (by decide), (g4 (by decide)).1⟩, fun p hp => (hj.2.2.2.2.1 p hp (by omega)).1, fun p hp => hj.2.2.2.2.2 p hp (by omega)⟩
    · refine (h2 c (by omega)).keep (fun k i hk => ?_)
      have := out k i (fun z => by unfold q_bn at z hk; omega)
      exact ⟨this.1, this.2.1⟩
  · obtain ⟨t0, t1, t3, t4, t6, t7⟩ := h5 t ht
    have o10 := out 10 t.1 (no _ _ (by omega))
    have o11 := out 11 t.2 (no _ _ (by omega))
    exact ⟨by rw [o10.2.1]; exact t0, by rw [o10.1]; exact t1, by rw [o10.1]; exact t3, t4, by rw [o11.1]; exact t6, by rw [o11.1]; exact t7⟩
  · have e := out k i (no _ _ (by omega))
    have f := h6 k i hk
    exact ⟨e.1.trans f.1, e.2.1.trans f.2.1, e.2.2.trans f.2.2⟩
theorem q_K.fresh (h : q_K S L m R T S1) {k i : Nat} (hL : (k, i) ∉ L) (h11 : k ≠ 11) (hb : ∀ c, c < m → ¬ q_bn c k i) : (k, i) ∉ mP S1 := fun z => by
  rcases h.1 _ z with z | z | ⟨c, z1, z2⟩
  · exact hL z
  · exact h11 z
  · exact hb c z1 z2
theorem q_K.freshb (h : q_K S L m R T S1) (hL : ∀ q, q ∈ L → q.1 = 0 ∨ 8 ≤ q.1) : (1, m) ∉ mP S1 ∧ ∀ k i, q_bn m k i → k ≠ 1 → (k, i) ∉ mP (e_nw S1 1 m a) := by
  refine ⟨h.fresh (fun z => by have := hL _ z; omega) (by decide) (fun c hc z => by unfold q_bn at z; omega), fun k i hb hk z => ?_⟩
  rcases List.mem_append.mp (show (k, i) ∈ mP S1 ++ [(1, m)] from z) with z | z
  · exact h.fresh (fun z => by have := hL _ z; unfold q_bn at hb; omega) (by unfold q_bn at hb; omega) (fun c hc z => by unfold q_bn at z hb; omega) z
  · rw [List.mem_singleton] at z
    cases z
    exact hk rfl
theorem q_K.z (h : q_K S L m R T S1) {j : Nat} : q_K S L m R T (sI S1 0 0 j 0) := by
  obtain ⟨h1, h2, h3, h4, h5, h6⟩ := h
  have out : ∀ k i, k ≠ 0 → mI (sI S1 0 0 j 0) k i = mI S1 k i := fun k i hk => e_u3_ne (fun z => hk (congrArg Prod.fst z))
  refine ⟨h1, fun c hc => (h2 c hc).keep (fun k i hk => ⟨out k i (by unfold q_bn at hk; omega), rfl⟩), fun j2 => ?_, h4, fun t ht => (h5 t ht).eqm (fun i => ⟨out 10 i (by decide), out 11 i (by decide), rfl⟩), fun k i hk => ⟨(out k i (by omega)).trans (h6 k i hk).1, (h6 k i hk).2⟩⟩
  by_cases c : j2 = j
  · subst c; exact q_s_self
  · rw [q_s_ne (fun z => c z.2.2)]; exact h3 j2
theorem q_K.r (h : q_K S L m R T S1) {k i j : Nat} {q : Nat × Nat} (hk : k = 0 ∨ k = 8 ∨ k = 12) (hR : ∀ x, x ∈ R → x.1 ≠ (k, i, j)) : q_K S L m (((k, i, j), q) :: R) T (sR S1 k i j (some q)) := by
  obtain ⟨h1, h2, h3, h4, h5, h6⟩ := h
  have out : ∀ k2 i2, ¬ (k2 = k ∧ i2 = i) → mR (sR S1 k i j (some q)) k2 i2 = mR S1 k2 i2 := fun k2 i2 hk => e_u3_ne (fun z => hk ⟨congrArg Prod.fst z, congrArg Prod.snd z⟩)
  refine ⟨h1, fun c hc => (h2 c hc).keep (fun k i hk => ⟨rfl, out k i (by unfold q_bn at hk; omega)⟩), h3, fun x hx => ?_, fun t ht => (h5 t ht).eqm (fun i => ⟨rfl, rfl, out 10 i (by omega)⟩), fun k i hk => ⟨(h6 k i hk).1, (out k i (by omega)).trans (h6 k i hk).2.1, (h6 k i hk).2.2⟩⟩
  rcases List.mem_cons.mp hx with rfl | hx
  · exact ⟨hk, if_pos ⟨rfl, rfl, rfl⟩⟩
  · refine ⟨(h4 x hx).1, (if_neg (fun z => ?_)).trans (h4 x hx).2⟩
    refine hR x hx ?_
    obtain ⟨⟨x1, x2, x3⟩, xq⟩ := x
    obtain ⟨z1, z2, z3⟩ := z
    show (x1, x2, x3) = (k, i, j)
    rw [show x1 = k from z1, show x2 = i from z2, show x3 = j from z3]
theorem q_K.nw (h : q_K S L m R T S1) {k i : Nat} (hk : 8 ≤ k ∧ k < 13) (hR : ∀ x, x ∈ R → ¬ (x.1.1 = k ∧ x.1.2.1 = i)) (hT : ∀ t, t ∈ T → ¬ (k = 10 ∧ i = t.1) ∧ ¬ (k = 11 ∧ i = t.2)) : q_K S ((k, i) :: L) m R T (e_nw S1 k i a) := by
  obtain ⟨h1, h2, h3, h4, h5, h6⟩ := h
  have out : ∀ k2 i2, ¬ (k2 = k ∧ i2 = i) → mI (e_nw S1 k i a) k2 i2 = mI S1 k2 i2 ∧ mR (e_nw S1 k i a) k2 i2 = mR S1 k2 i2 ∧ mL (e_nw S1 k i a) k2 i2 = mL S1 k2 i2 := fun k2 i2 h => q_nw_ne h
  refine ⟨fun q hq => ?_, fun c hc => (h2 c hc).keep (fun k i hk => ⟨(out k i (by unfold q_bn at hk; omega)).1, (out k i (by unfold q_bn at hk; omega)).2.1⟩), fun j => by rw [(out 0 0 (by omega)).1]; exact h3 j, fun x hx => ⟨(h4 x hx).1, by rw [(out _ _ (hR x hx)).2.1]; exact (h4 x hx).2⟩, fun t ht => ?_, fun k i hk => ?_⟩
  · rcases List.mem_append.mp (show q ∈ mP S1 ++ [(k, i)] from hq) with z | z
    · rcases h1 q z with z | z
      · exact Or.inl (List.mem_cons_of_mem _ z)
      · exact Or.inr z
    · rw [List.mem_singleton] at z
      subst z
      exact Or.inl List.mem_cons_self
  · obtain ⟨t0, t1, t3, t4, t6, t7⟩ := h5 t ht
    have o10 := out 10 t.1 (fun z => (hT t ht).1 ⟨z.1.symm, z.2.symm⟩)
    have o11 := out 11 t.2 (fun z => (hT t ht).2 ⟨z.1.symm, z.2.symm⟩)
    exact ⟨by rw [o10.2.1]; exact t0, by rw [o10.1]; exact t1, by rw [o10.1]; exact t3, t4, by rw [o11.1]; exact t6, by rw [o11.1]; exact t7⟩
  · have e := out k i (by omega)
    have f := h6 k i hk
    exact ⟨e.1.trans f.1, e.2.1.trans f.2.1, e.2.2.trans f.2.2⟩
/-- a builder made -/
theorem q_J4_init {s c : Nat} (hz : ∀ j, mI S 10 s j = 0) (h : ∀ S2 i, (∀ k2 i2, ¬ (k2 = 10 ∧ i2 = s) → ¬ (k2 = 11 ∧ i2 = i) → mI S2 k2 i2 = mI S k2 i2 ∧ mR S2 k2 i2 = mR S k2 i2 ∧ mL S2 k2 i2 = mL S k2 i2) → mP S2 = mP S ++ [(11, i)] → i ≠ c → q_T1 S2 s i (fun _ => 0) 0 → post none S2) : w_J4_init_da8c8 [aR 10 s] S post := by
  obtain ⟨i, f1, f2, f3, -⟩ := q_fresh (mP S) (n := 16) (by decide) c c
  refine e_walk (stops := [6]) 20 ?_
  refine And.intro (by decide) (And.intro (by decide) ?_)
  refine e_walk (stops := [14]) 20 ?_
  refine And.intro (fun c => absurd c (by decide)) (fun _ => ?_)
  refine ⟨11, i, ⟨by decide, by decide, rfl, by decide, f1, f2, by decide, by decide⟩, fun a => ?_⟩
  have nI : ∀ j, mI (sI (sR (e_nw S 11 i a) 10 s 0 (some (11, i))) 10 s 1 0) 10 s j = 0 := fun j => by
    by_cases z : j = 1
    · subst z; exact q_s_self
    · rw [q_s_ne (fun y => z y.2.2)]
      show mI (e_nw S 11 i a) 10 s j = 0
      rw [(q_nw_ne (S := S) (a := a) (by omega)).1]; exact hz j
  have n11 : ∀ j, mI (sI (sR (e_nw S 11 i a) 10 s 0 (some (11, i))) 10 s 1 0) 11 i j = 0 := fun j => by
    rw [q_s_ne (by omega)]
    exact q_nw_eq (S := S) (a := a)
  have fin := h (sI (sR (e_nw S 11 i a) 10 s 0 (some (11, i))) 10 s 1 0) i (fun k2 i2 g1 g2 => by
    obtain ⟨e1, e2, e3⟩ := q_nw_ne (S := S) (a := a) g2
    exact ⟨(e_u3_ne (fun z => g1 ⟨congrArg Prod.fst z, congrArg Prod.snd z⟩)).trans e1, (e_u3_ne (fun z => g1 ⟨congrArg Prod.fst z, congrArg Prod.snd z⟩)).trans e2, e3⟩) rfl f3 ⟨if_pos ⟨rfl, rfl, rfl⟩, nI 1, nI 3, ⟨Nat.zero_le _, Or.inl f1⟩, fun j _ => by rw [n11]; exact q_by0, fun j hj => absurd hj (Nat.not_lt_zero j)⟩
  refine e_walk (stops := []) 20 ?_
  refine And.intro (fun q z => by cases z) (And.intro ⟨rfl, rfl⟩ ?_)
  refine e_walk (stops := []) 20 ?_
  exact fin
end Made3
