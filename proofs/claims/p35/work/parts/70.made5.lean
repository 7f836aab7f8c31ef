/-! What walks come to: the reference made; the first state. Own work. -/
section Made5
variable {S S1 S2 : eM} {post : eQ} {b n a m : Nat} {L T : List (Nat × Nat)} {R : List ((Nat × Nat × Nat) × (Nat × Nat))}
def q_fo : Nat → Nat
  | 0 => 0 | 1 => 1 | 2 => 3 | 3 => 5 | 4 => 6 | _ => 9
theorem q_fo_ne : ∀ n, n < 6 → ∀ m, m < n → q_fo m ≠ q_fo n := by decide
/-- the reference half made: n of its rows are there -/
def q_N (S : eM) (n : Nat) (S1 : eM) : Prop :=
  (∀ k i, k ≠ 13 → k ≠ 14 → mI S1 k i = mI S k i ∧ mR S1 k i = mR S k i ∧ mL S1 k i = mL S k i) ∧ (∀ q, q ∈ mP S1 → q ∈ mP S ∨ (q.1 = 14 ∧ q.2 < n)) ∧ (∀ j, mI S1 13 0 j = 0) ∧ (∀ m, m < n → mR S1 13 0 (q_fo m) = some (14, m)) ∧ (0 < n → ∀ j, mI S1 14 0 j = 0)
theorem q_N.rf (hz : ∀ j, mI S 13 0 j = 0) : q_N S 0 S := ⟨fun _ _ _ _ => ⟨rfl, rfl, rfl⟩, fun q hq => Or.inl hq, hz, fun m hm => absurd hm (Nat.not_lt_zero m), fun z => absurd z (by decide)⟩
theorem q_N.fresh (h : q_N S n S1) (hf : ∀ q, q ∈ mP S → q.1 ≠ 14) : (14, n) ∉ mP S1 := fun z => by
  rcases h.2.1 _ z with z | z
  · exact hf _ z rfl
  · exact Nat.lt_irrefl _ z.2
theorem q_N.next (h : q_N S n S1) (hn : n < 6) : q_N S (n + 1) (sR (e_nw S1 14 n a) 13 0 (q_fo n) (some (14, n))) := by
  obtain ⟨h1, h2, h3, h4, h5⟩ := h
  refine ⟨fun k i k1 k2 => ?_, fun q hq => ?_, fun j => ?_, fun m hm => ?_, fun _ j => ?_⟩
  · obtain ⟨e1, e2, e3⟩ := q_nw_ne (S := S1) (k := 14) (i := n) (a := a) (k2 := k) (i2 := i) (fun z => k2 z.1)
    have e := h1 k i k1 k2
    exact ⟨e1.trans e.1, (e_u3_ne (fun z => k1 (congrArg Prod.fst z))).trans (e2.trans e.2.1), e3.trans e.2.2⟩
  · rcases List.mem_append.mp (show q ∈ mP S1 ++ [(14, n)] from hq) with z | z
    · rcases h2 q z with z | z
      · exact Or.inl z
      · exact Or.inr ⟨z.1, by omega⟩
    · rw [List.mem_singleton] at z
      subst z
      exact Or.inr ⟨rfl, by show n < n + 1; omega⟩
  · show mI (e_nw S1 14 n a) 13 0 j = 0
    rw [(q_nw_ne (S := S1) (k := 14) (i := n) (a := a) (k2 := 13) (i2 := 0) (by omega)).1]; exact h3 j
  · by_cases c : m = n
    · subst c; exact if_pos ⟨rfl, rfl, rfl⟩
    · refine (if_neg (fun z => q_fo_ne n hn m (by omega) z.2.2)).trans ?_
      show mR (e_nw S1 14 n a) 13 0 (q_fo m) = _
      rw [(q_nw_ne (S := S1) (k := 14) (i := n) (a := a) (k2 := 13) (i2 := 0) (by omega)).2.1]; exact h4 m (by omega)
  · by_cases c : n = 0
    · subst c
      show mI (e_nw S1 14 0 a) 14 0 j = 0
      exact q_nw_eq
    · show mI (e_nw S1 14 n a) 14 0 j = 0
      rw [(q_nw_ne (S := S1) (k := 14) (i := n) (a := a) (k2 := 14) (i2 := 0) (by omega)).1]; exact h5 (by omega) j
/-- the system made holds the first row, and nothing beside -/
theorem q_K.Y {i0 i1 : Nat} (h : q_K S q_Lf 8 (q_Rs 6) [(0, i0), (1, i1)] S1) (hne : i0 ≠ i1) (sv : Nat → qV) (sp : qV) (tx : Nat → Int32) : q_Y S1 q_v0 sv 0 sp false tx 0 0 := by
  obtain ⟨h1, h2, h3, h4, h5, h6⟩ := h
  have t0 := h5 (0, i0) List.mem_cons_self
  have t1 := h5 (1, i1) (List.mem_cons_of_mem _ List.mem_cons_self)
  have hr : ∀ k, k < 6 → ((8, 0, k), (1, 2 + k)) ∈ q_Rs 6 := by decide
  refine ⟨0, 0, 0, fun k => 2 + k, (h2 0 (by decide)).1, q_inv_v0, ⟨h3 4, by decide⟩, ⟨fun k hk => ⟨(h4 _ (hr k hk)).2, by show 2 ≤ 2 + k; omega, by show 2 + k ≤ 7; omega⟩, fun j k _ _ e => by have e : 2 + j = 2 + k := e; omega⟩, fun k hk => absurd hk (Nat.not_lt_zero k), ⟨h3 2, fun z => absurd z (by decide)⟩, by decide, i0, i1, _, 0, hne, t0, t1.cg (fun j hj => absurd hj (Nat.not_lt_zero j))⟩
/-- final references are what they are -/
theorem q_K.rf (h : q_K S q_Lf 8 (q_Rs 6) T S2) : ∀ k i j q, (k, i) ∈ mP S2 → j < e_pl (k, i) → e_rf k i j = some q → mR S2 k i j = some q := by
  intro k i j q hm hj hq
  obtain ⟨h1, h2, -, h4, -, -⟩ := h
  have R := fun x hx => (h4 x hx).2
  rcases h1 _ hm with z | z | ⟨c, z1, z2⟩
  · have z : (k, i) = (10, 0) ∨ (k, i) = (9, 0) ∨ (k, i) = (10, 1) ∨ (k, i) = (12, 0) ∨ (k, i) = (8, 0) ∨ (k, i) = (0, 0) := by
      simpa only [List.mem_cons, List.not_mem_nil, or_false] using z
    rcases z with z | z | z | z | z | z <;> cases z
    · cases hq
    · cases hq
    · cases hq
    · have hj : j < 1 := hj
      obtain rfl : j = 0 := by omega
      cases hq
      exact R ((12, 0, 0), (10, 1)) (by decide)
    · cases hq
    · have hj : j < 8 := hj
      rcases (show j = 0 ∨ j = 1 ∨ j = 2 ∨ j = 3 ∨ j = 4 ∨ j = 5 ∨ j = 6 ∨ j = 7 by omega) with rfl | rfl | rfl | rfl | rfl | rfl | rfl | rfl <;> cases hq
      · exact R ((0, 0, 0), (1, 0)) (by decide)
      · exact R ((0, 0, 1), (1, 1)) (by decide)
      · exact R ((0, 0, 3), (8, 0)) (by decide)
      · exact R ((0, 0, 5), (12, 0)) (by decide)
      · exact R ((0, 0, 6), (9, 0)) (by decide)
      · exact R ((0, 0, 7), (10, 0)) (by decide)
  · have z : k = 11 := z
    subst z
    cases hq
  · obtain ⟨-, ⟨g0, g1, g2, g3⟩, g4, g5⟩ := h2 c z1
    have z2 : q_bn c k i := z2
    unfold q_bn at z2
    rcases z2 with ⟨rfl, rfl⟩ | ⟨rfl | rfl, _⟩ | ⟨rfl | rfl | rfl | rfl, rfl⟩
    · have hj : j < 17 := hj
      rcases (show j = 0 ∨ j = 2 ∨ j = 4 ∨ j = 6 ∨ (j ≠ 0 ∧ j ≠ 2 ∧ j ≠ 4 ∧ j ≠ 6) by omega) with rfl | rfl | rfl | rfl | z
      · cases hq; exact g0
      · cases hq; exact g1
      · cases hq; exact g2
      · cases hq; exact g3
      · rcases (show j = 1 ∨ j = 3 ∨ j = 5 ∨ j = 7 ∨ j = 8 ∨ j = 9 ∨ j = 10 ∨ j = 11 ∨ j = 12 ∨ j = 13 ∨ j = 14 ∨ j = 15 ∨ j = 16 by omega) with rfl | rfl | rfl | rfl | rfl | rfl | rfl | rfl | rfl | rfl | rfl | rfl | rfl <;> cases hq
    · cases hq
    · cases hq
    · have hj : j < 10 := hj
      cases hq; exact g4 j hj
    · have hj : j < 10 := hj
      cases hq; exact g5 j hj
    · cases hq
    · cases hq
end Made5
