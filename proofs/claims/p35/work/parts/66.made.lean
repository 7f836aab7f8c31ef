/-! What walks come to: a band made. Own work. -/
section Made
variable {S S1 S2 : eM} {post : eQ} {b n a : Nat}
/-- a band's things; their order of making -/
def q_bn (b k i : Nat) : Prop := (k = 1 ∧ i = b) ∨ ((k = 2 ∨ k = 3) ∧ i / 10 = b) ∨ ((k = 4 ∨ k = 5 ∨ k = 6 ∨ k = 7) ∧ i = b)
def q_rk (q : Nat × Nat) : Nat := if q.1 = 2 then 4 + q.2 % 10 else if q.1 = 3 then 14 + q.2 % 10 else q.1 - 4
/-- a band half made: n of its things are there -/
def q_J (b : Nat) (S : eM) (n : Nat) (S1 : eM) : Prop :=
  (∀ k i, ¬ q_bn b k i → mI S1 k i = mI S k i ∧ mR S1 k i = mR S k i ∧ mL S1 k i = mL S k i) ∧
  (∀ q, q ∈ mP S1 → q ∈ mP S ∨ (q_bn b q.1 q.2 ∧ q.1 ≠ 1 ∧ q_rk q < n)) ∧
  (∀ j, mI S1 1 b j = 0) ∧
  ((0 < n → mR S1 1 b 0 = some (4, b)) ∧ (1 < n → mR S1 1 b 2 = some (5, b)) ∧ (2 < n → mR S1 1 b 4 = some (6, b)) ∧ (3 < n → mR S1 1 b 6 = some (7, b) ∧ mI S1 7 b 0 = 20 ∧ mI S1 7 b 1 = 60 ∧ mI S1 7 b 2 = 30)) ∧
  (∀ p, p < 10 → 4 + p < n → mR S1 4 b p = some (2, 10 * b + p) ∧ ∀ j, mI S1 2 (10 * b + p) j = 0) ∧
  (∀ p, p < 10 → 14 + p < n → mR S1 5 b p = some (3, 10 * b + p))
theorem q_J.fresh (h : q_J b S n S1) (hf : ∀ k i, q_bn b k i → k ≠ 1 → (k, i) ∉ mP S) {k i : Nat} (hb : q_bn b k i) (hk : k ≠ 1) (hr : n ≤ q_rk (k, i)) : (k, i) ∉ mP S1 := fun z => by
  rcases h.2.1 _ z with z | z
  · exact hf k i hb hk z
  · have := z.2.2
    omega
theorem q_J.z (h : q_J b S n S1) {j : Nat} : q_J b S n (sI S1 1 b j 0) := by
  obtain ⟨h1, h2, h3, h4, h5, h6⟩ := h
  refine ⟨fun k i hk => ⟨(e_u3_ne (fun z => hk (by cases z; exact Or.inl ⟨rfl, rfl⟩))).trans (h1 k i hk).1, (h1 k i hk).2⟩, h2, fun j2 => ?_, ⟨h4.1, h4.2.1, h4.2.2.1, fun hn => ?_⟩, fun p hp hn => ⟨(h5 p hp hn).1, fun j2 => ?_⟩, h6⟩
  · by_cases c : j2 = j
    · subst c; exact q_s_self
    · rw [q_s_ne (fun z => c z.2.2)]; exact h3 j2
  · obtain ⟨g1, g2, g3, g4⟩ := h4.2.2.2 hn
    exact ⟨g1, by rw [q_s_ne (by omega)]; exact g2, by rw [q_s_ne (by omega)]; exact g3, by rw [q_s_ne (by omega)]; exact g4⟩
  · rw [q_s_ne (by omega)]; exact (h5 p hp hn).2 j2
theorem q_J_a0 (h : q_J b S 0 S1) : q_J b S 1 (sR (e_nw S1 4 b a) 1 b 0 (some (4, b))) := by
  obtain ⟨h1, h2, h3, ⟨g0, g1, g2, g3⟩, h5, h6⟩ := h
  refine ⟨fun k i hk => ?_, fun q hq => ?_, fun j => ?_, ⟨fun hn => ?_, fun hn => ?_, fun hn => ?_, fun hn => ?_⟩, fun p hp hn => absurd hn (by omega), fun p hp hn => absurd hn (by omega)⟩
  · have e := h1 k i hk
    have n1 : ¬ (k = 4 ∧ i = b) := fun z => hk (Or.inr (Or.inr ⟨by omega, z.2⟩))
    have n2 : ¬ (k = 1 ∧ i = b) := fun z => hk (Or.inl z)
    obtain ⟨e1, e2, e3⟩ := q_nw_ne (S := S1) (a := a) n1
    refine ⟨?_, (e_u3_ne (fun z => n2 ⟨congrArg Prod.fst z, congrArg Prod.snd z⟩)).trans (e2.trans e.2.1), e3.trans e.2.2⟩
    exact e1.trans e.1
  · rcases List.mem_append.mp (show q ∈ mP S1 ++ [(4, b)] from hq) with z | z
    · rcases h2 q z with z | z
      · exact Or.inl z
      · exact Or.inr ⟨z.1, z.2.1, by omega⟩
    · rw [List.mem_singleton] at z
      subst z
      exact Or.inr ⟨Or.inr (Or.inr ⟨by omega, rfl⟩), by show (4 : Nat) ≠ 1; decide, by show q_rk (4, b) < _; unfold q_rk; rw [if_neg (by omega), if_neg (by omega)]; omega⟩
  · have e := (q_nw_ne (S := S1) (k := 4) (i := b) (a := a) (k2 := 1) (i2 := b) (by omega)).1
    show mI (e_nw S1 4 b a) 1 b j = 0
    rw [e]; exact h3 j
  · exact if_pos ⟨rfl, rfl, rfl⟩
  · omega
  · omega
  · omega
theorem q_J_a1 (h : q_J b S 1 S1) : q_J b S 2 (sR (e_nw S1 5 b a) 1 b 2 (some (5, b))) := by
  obtain ⟨h1, h2, h3, ⟨g0, g1, g2, g3⟩, h5, h6⟩ := h
  refine ⟨fun k i hk => ?_, fun q hq => ?_, fun j => ?_, ⟨fun hn => ?_, fun hn => ?_, fun hn => ?_, fun hn => ?_⟩, fun p hp hn => absurd hn (by omega), fun p hp hn => absurd hn (by omega)⟩
  · have e := h1 k i hk
    have n1 : ¬ (k = 5 ∧ i = b) := fun z => hk (Or.inr (Or.inr ⟨by omega, z.2⟩))
    have n2 : ¬ (k = 1 ∧ i = b) := fun z => hk (Or.inl z)
    obtain ⟨e1, e2, e3⟩ := q_nw_ne (S := S1) (a := a) n1
    refine ⟨?_, (e_u3_ne (fun z => n2 ⟨congrArg Prod.fst z, congrArg Prod.snd z⟩)).trans (e2.trans e.2.1), e3.trans e.2.2⟩
    exact e1.trans e.1
  · rcases List.mem_append.mp (show q ∈ mP S1 ++ [(5, b)] from hq) with z | z
    · rcases h2 q z with z | z
      · exact Or.inl z
      · exact Or.inr ⟨z.1, z.2.1, by omega⟩
    · rw [List.mem_singleton] at z
      subst z
      exact Or.inr ⟨Or.inr (Or.inr ⟨by omega, rfl⟩), by show (5 : Nat) ≠ 1; decide, by show q_rk (5, b) < _; unfold q_rk; rw [if_neg (by omega), if_neg (by omega)]; omega⟩
  · have e := (q_nw_ne (S := S1) (k := 5) (i := b) (a := a) (k2 := 1) (i2 := b) (by omega)).1
    show mI (e_nw S1 5 b a) 1 b j = 0
    rw [e]; exact h3 j
  · show e_u3 (mR (e_nw S1 5 b a)) 1 b 2 _ 1 b 0 = _
    unfold e_u3
    rw [if_neg (by omega), (q_nw_ne (S := S1) (k := 5) (i := b) (a := a) (k2 := 1) (i2 := b) (by omega)).2.1]
    exact g0 (by omega)
  · exact if_pos ⟨rfl, rfl, rfl⟩
  · omega
  · omega
theorem q_J_a2 (h : q_J b S 2 S1) : q_J b S 3 (sR (e_nw S1 6 b a) 1 b 4 (some (6, b))) := by
  obtain ⟨h1, h2, h3, ⟨g0, g1, g2, g3⟩, h5, h6⟩ := h
  refine ⟨fun k i hk => ?_, fun q hq => ?_, fun j => ?_, ⟨fun hn => ?_, fun hn => ?_, fun hn => ?_, fun hn => ?_⟩, fun p hp hn => absurd hn (by omega), fun p hp hn => absurd hn (by omega)⟩
  · have e := h1 k i hk
    have n1 : ¬ (k = 6 ∧ i = b) := fun z => hk (Or.inr (Or.inr ⟨by omega, z.2⟩))
    have n2 : ¬ (k = 1 ∧ i = b) := fun z => hk (Or.inl z)
    obtain ⟨e1, e2, e3⟩ := q_nw_ne (S := S1) (a := a) n1
    refine ⟨?_, (e_u3_ne (fun z => n2 ⟨congrArg Prod.fst z, congrArg Prod.snd z⟩)).trans (e2.trans e.2.1), e3.trans e.2.2⟩
    exact e1.trans e.1
  · rcases List.mem_append.mp (show q ∈ mP S1 ++ [(6, b)] from hq) with z | z
    · rcases h2 q z with z | z
      · exact Or.inl z
      · exact Or.inr ⟨z.1, z.2.1, by omega⟩
    · rw [List.mem_singleton] at z
      subst z
      exact Or.inr ⟨Or.inr (Or.inr ⟨by omega, rfl⟩), by show (6 : Nat) ≠ 1; decide, by show q_rk (6, b) < _; unfold q_rk; rw [if_neg (by omega), if_neg (by omega)]; omega⟩
  · have e := (q_nw_ne (S := S1) (k := 6) (i := b) (a := a) (k2 := 1) (i2 := b) (by omega)).1
    show mI (e_nw S1 6 b a) 1 b j = 0
    rw [e]; exact h3 j
  · show e_u3 (mR (e_nw S1 6 b a)) 1 b 4 _ 1 b 0 = _
    unfold e_u3
    rw [if_neg (by omega), (q_nw_ne (S := S1) (k := 6) (i := b) (a := a) (k2 := 1) (i2 := b) (by omega)).2.1]
    exact g0 (by omega)
  · show e_u3 (mR (e_nw S1 6 b a)) 1 b 4 _ 1 b 2 = _
    unfold e_u3
    rw [if_neg (by omega), (q_nw_ne (S := S1) (k := 6) (i := b) (a := a) (k2 := 1) (i2 := b) (by omega)).2.1]
    exact g1 (by omega)
  · exact if_pos ⟨rfl, rfl, rfl⟩
  · omega
theorem q_J_a3 (h : q_J b S 3 S1) : q_J b S 4 (sR (sI (sI (sI (e_nw S1 7 b a) 7 b 0 20) 7 b 1 60) 7 b 2 30) 1 b 6 (some (7, b))) := by
  obtain ⟨h1, h2, h3, ⟨g0, g1, g2, g3⟩, h5, h6⟩ := h
  refine ⟨fun k i hk => ?_, fun q hq => ?_, fun j => ?_, ⟨fun hn => ?_, fun hn => ?_, fun hn => ?_, fun hn => ?_⟩, fun p hp hn => absurd hn (by omega), fun p hp hn => absurd hn (by omega)⟩
  · have e := h1 k i hk
    have n1 : ¬ (k = 7 ∧ i = b) := fun z => hk (Or.inr (Or.inr ⟨by omega, z.2⟩))
    have n2 : ¬ (k = 1 ∧ i = b) := fun z => hk (Or.inl z)
    obtain ⟨e1, e2, e3⟩ := q_nw_ne (S := S1) (a := a) n1
    refine ⟨?_, (e_u3_ne (fun z => n2 ⟨congrArg Prod.fst z, congrArg Prod.snd z⟩)).trans (e2.trans e.2.1), e3.trans e.2.2⟩
    exact (e_u3_ne (fun z => n1 ⟨congrArg Prod.fst z, congrArg Prod.snd z⟩)).trans ((e_u3_ne (fun z => n1 ⟨congrArg Prod.fst z, congrArg Prod.snd z⟩)).trans ((e_u3_ne (fun z => n1 ⟨congrArg Prod.fst z, congrArg Prod.snd z⟩)).trans (e1.trans e.1)))
  · rcases List.mem_append.mp (show q ∈ mP S1 ++ [(7, b)] from hq) with z | z
    · rcases h2 q z with z | z
      · exact Or.inl z
      · exact Or.inr ⟨z.1, z.2.1, by omega⟩
    · rw [List.mem_singleton] at z
      subst z
      exact Or.inr ⟨Or.inr (Or.inr ⟨by omega, rfl⟩), by show (7 : Nat) ≠ 1; decide, by show q_rk (7, b) < _; unfold q_rk; rw [if_neg (by omega), if_neg (by omega)]; omega⟩
  · have e := (q_nw_ne (S := S1) (k := 7) (i := b) (a := a) (k2 := 1) (i2 := b) (by omega)).1
    show mI (sI (sI (sI (e_nw S1 7 b a) 7 b 0 20) 7 b 1 60) 7 b 2 30) 1 b j = 0
    rw [q_s_ne (by omega), q_s_ne (by omega), q_s_ne (by omega), e]; exact h3 j
  · show e_u3 (mR (e_nw S1 7 b a)) 1 b 6 _ 1 b 0 = _
    unfold e_u3
    rw [if_neg (by omega), (q_nw_ne (S := S1) (k := 7) (i := b) (a := a) (k2 := 1) (i2 := b) (by omega)).2.1]
    exact g0 (by omega)
  · show e_u3 (mR (e_nw S1 7 b a)) 1 b 6 _ 1 b 2 = _
    unfold e_u3
    rw [if_neg (by omega), (q_nw_ne (S := S1) (k := 7) (i := b) (a := a) (k2 := 1) (i2 := b) (by omega)).2.1]
    exact g1 (by omega)
  · show e_u3 (mR (e_nw S1 7 b a)) 1 b 6 _ 1 b 4 = _
    unfold e_u3
    rw [if_neg (by omega), (q_nw_ne (S := S1) (k := 7) (i := b) (a := a) (k2 := 1) (i2 := b) (by omega)).2.1]
    exact g2 (by omega)
  · exact ⟨if_pos ⟨rfl, rfl, rfl⟩, by show mI (sI (sI (sI (e_nw S1 7 b a) 7 b 0 20) 7 b 1 60) 7 b 2 30) 7 b 0 = 20; rw [q_s_ne (by omega), q_s_ne (by omega), q_s_self], by show mI (sI (sI (sI (e_nw S1 7 b a) 7 b 0 20) 7 b 1 60) 7 b 2 30) 7 b 1 = 60; rw [q_s_ne (by omega), q_s_self], q_s_self⟩
theorem q_J_p {p : Nat} (hp : p < 10) (h : q_J b S (4 + p) S1) : q_J b S (4 + p + 1) (sR (e_nw S1 2 (10 * b + p) a) 4 b p (some (2, 10 * b + p))) := by
  obtain ⟨h1, h2, h3, ⟨g0, g1, g2, g3⟩, h5, h6⟩ := h
  have nR : ∀ k2 i2, ¬ (k2 = 2 ∧ i2 = 10 * b + p) → ¬ (k2 = 4 ∧ i2 = b) → mR (sR (e_nw S1 2 (10 * b + p) a) 4 b p (some (2, 10 * b + p))) k2 i2 = mR S1 k2 i2 := fun k2 i2 n1 n2 => (e_u3_ne (fun z => n2 ⟨congrArg Prod.fst z, congrArg Prod.snd z⟩)).trans (q_nw_ne (S := S1) (a := a) n1).2.1
  have nI2 : ∀ k2 i2, ¬ (k2 = 2 ∧ i2 = 10 * b + p) → mI (sR (e_nw S1 2 (10 * b + p) a) 4 b p (some (2, 10 * b + p))) k2 i2 = mI S1 k2 i2 := fun k2 i2 n1 => (q_nw_ne (S := S1) (a := a) n1).1
  have nRj : ∀ j, j ≠ p → mR (sR (e_nw S1 2 (10 * b + p) a) 4 b p (some (2, 10 * b + p))) 4 b j = mR S1 4 b j := fun j hj => (if_neg (fun z => hj z.2.2)).trans (congrFun (q_nw_ne (S := S1) (k := 2) (i := 10 * b + p) (a := a) (k2 := 4) (i2 := b) (by omega)).2.1 j)
  have self : mR (sR (e_nw S1 2 (10 * b + p) a) 4 b p (some (2, 10 * b + p))) 4 b p = some (2, 10 * b + p) := if_pos ⟨rfl, rfl, rfl⟩
  refine ⟨fun k i hk => ?_, fun q hq => ?_, fun j => ?_, ⟨fun hn => ?_, fun hn => ?_, fun hn => ?_, fun hn => ?_⟩, fun p2 hp2 hn => ?_, fun p2 hp2 hn => ?_⟩
  · have e := h1 k i hk
    have n1 : ¬ (k = 2 ∧ i = 10 * b + p) := fun z => hk (Or.inr (Or.inl ⟨by omega, by omega⟩))
    exact ⟨(nI2 k i n1).trans e.1, (nR k i n1 (fun z => hk (Or.inr (Or.inr ⟨by omega, z.2⟩)))).trans e.2.1, (q_nw_ne (S := S1) (a := a) n1).2.2.trans e.2.2⟩
  · rcases List.mem_append.mp (show q ∈ mP S1 ++ [(2, 10 * b + p)] from hq) with z | z
    · rcases h2 q z with z | z
      · exact Or.inl z
      · exact Or.inr ⟨z.1, z.2.1, by omega⟩
    · rw [List.mem_singleton] at z
      subst z
      refine Or.inr ⟨Or.inr (Or.inl ⟨by omega, by omega⟩), by show (2 : Nat) ≠ 1; decide, ?_⟩
      show q_rk (2, 10 * b + p) < _
      unfold q_rk
      rw [if_pos rfl]
      show 4 + (10 * b + p) % 10 < _
      omega
  · rw [nI2 1 b (by omega)]; exact h3 j
  · rw [nR 1 b (by omega) (by omega)]; exact g0 (by omega)
  · rw [nR 1 b (by omega) (by omega)]; exact g1 (by omega)
  · rw [nR 1 b (by omega) (by omega)]; exact g2 (by omega)
  · rw [nR 1 b (by omega) (by omega), nI2 7 b (by omega)]; exact g3 (by omega)
  · by_cases c : p2 = p
    · subst c
      exact ⟨self, fun j => q_nw_eq (S := S1) (a := a)⟩
    · obtain ⟨x1, x2⟩ := h5 p2 hp2 (by omega)
      exact ⟨(nRj p2 c).trans x1, fun j => by rw [nI2 2 (10 * b + p2) (by omega)]; exact x2 j⟩
  · omega
theorem q_J_i {p : Nat} (hp : p < 10) (h : q_J b S (14 + p) S1) : q_J b S (14 + p + 1) (sR (e_nw S1 3 (10 * b + p) a) 5 b p (some (3, 10 * b + p))) := by
  obtain ⟨h1, h2, h3, ⟨g0, g1, g2, g3⟩, h5, h6⟩ := h
  have nR : ∀ k2 i2, ¬ (k2 = 3 ∧ i2 = 10 * b + p) → ¬ (k2 = 5 ∧ i2 = b) → mR (sR (e_nw S1 3 (10 * b + p) a) 5 b p (some (3, 10 * b + p))) k2 i2 = mR S1 k2 i2 := fun k2 i2 n1 n2 => (e_u3_ne (fun z => n2 ⟨congrArg Prod.fst z, congrArg Prod.snd z⟩)).trans (q_nw_ne (S := S1) (a := a) n1).2.1
  have nI2 : ∀ k2 i2, ¬ (k2 = 3 ∧ i2 = 10 * b + p) → mI (sR (e_nw S1 3 (10 * b + p) a) 5 b p (some (3, 10 * b + p))) k2 i2 = mI S1 k2 i2 := fun k2 i2 n1 => (q_nw_ne (S := S1) (a := a) n1).1
  have nRj : ∀ j, j ≠ p → mR (sR (e_nw S1 3 (10 * b + p) a) 5 b p (some (3, 10 * b + p))) 5 b j = mR S1 5 b j := fun j hj => (if_neg (fun z => hj z.2.2)).trans (congrFun (q_nw_ne (S := S1) (k := 3) (i := 10 * b + p) (a := a) (k2 := 5) (i2 := b) (by omega)).2.1 j)
  have self : mR (sR (e_nw S1 3 (10 * b + p) a) 5 b p (some (3, 10 * b + p))) 5 b p = some (3, 10 * b + p) := if_pos ⟨rfl, rfl, rfl⟩
  refine ⟨fun k i hk => ?_, fun q hq => ?_, fun j => ?_, ⟨fun hn => ?_, fun hn => ?_, fun hn => ?_, fun hn => ?_⟩, fun p2 hp2 hn => ?_, fun p2 hp2 hn => ?_⟩
  · have e := h1 k i hk
    have n1 : ¬ (k = 3 ∧ i = 10 * b + p) := fun z => hk (Or.inr (Or.inl ⟨by omega, by omega⟩))
    exact ⟨(nI2 k i n1).trans e.1, (nR k i n1 (fun z => hk (Or.inr (Or.inr ⟨by omega, z.2⟩)))).trans e.2.1, (q_nw_ne (S := S1) (a := a) n1).2.2.trans e.2.2⟩
  · rcases List.mem_append.mp (show q ∈ mP S1 ++ [(3, 10 * b + p)] from hq) with z | z
    · rcases h2 q z with z | z
      · exact Or.inl z
      · exact Or.inr ⟨z.1, z.2.1, by omega⟩
    · rw [List.mem_singleton] at z
      subst z
      refine Or.inr ⟨Or.inr (Or.inl ⟨by omega, by omega⟩), by show (3 : Nat) ≠ 1; decide, ?_⟩
      show q_rk (3, 10 * b + p) < _
      unfold q_rk
      rw [if_neg (show ¬ (3 : Nat) = 2 by decide), if_pos rfl]
      show 14 + (10 * b + p) % 10 < _
      omega
  · rw [nI2 1 b (by omega)]; exact h3 j
  · rw [nR 1 b (by omega) (by omega)]; exact g0 (by omega)
  · rw [nR 1 b (by omega) (by omega)]; exact g1 (by omega)
  · rw [nR 1 b (by omega) (by omega)]; exact g2 (by omega)
  · rw [nR 1 b (by omega) (by omega), nI2 7 b (by omega)]; exact g3 (by omega)
  · obtain ⟨x1, x2⟩ := h5 p2 hp2 (by omega)
    exact ⟨by rw [nR 4 b (by omega) (by omega)]; exact x1, fun j => by rw [nI2 2 (10 * b + p2) (by omega)]; exact x2 j⟩
  · by_cases c : p2 = p
    · subst c
      exact self
    · exact (nRj p2 c).trans (h6 p2 hp2 (by omega))
end Made
