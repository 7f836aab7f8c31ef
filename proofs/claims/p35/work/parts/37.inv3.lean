/-! What rows keep, 3: a march. Own work. -/
section Rows3
variable {v v2 : qV} {B np ni nl : Nat}
theorem q_free : ∀ t, t < 1024 → ∀ n, n < 10 → decide (nI t >>> (nI n &&& 31) &&& 1 = 0) = !(t.testBit n) := by decide +kernel
theorem q_bst_free (v : qV) (m k : Nat) (tk : Int32) : ∀ n, q_bst v m k tk n = -1 ∨ ∃ j, j < n ∧ q_bst v m k tk n = nI j ∧ decide (tk >>> (nI j &&& 31) &&& 1 = 0) = true
  | 0 => Or.inl rfl
  | n + 1 => by
    rw [q_bst]
    cases hc : (decide (tk >>> (nI n &&& 31) &&& 1 = 0) && (q_could v n m k && (decide (q_bst v m k tk n = -1) || decide (q_of v (q_bst v m k tk n).toNatClampNeg 2 < q_of v n 2)))) with
    | true =>
      rw [Bool.and_eq_true] at hc
      exact Or.inr ⟨n, by omega, rfl, hc.1⟩
    | false =>
      rcases q_bst_free v m k tk n with h | ⟨j, h1, h2⟩
      · exact Or.inl h
      · exact Or.inr ⟨j, by omega, h2⟩
theorem q_nIne {j : Nat} (h : j < 2 ^ 31) : ¬ nI j = -1 := by
  intro z
  have := congrArg Int32.toInt z
  rw [nI_toInt h] at this
  exact absurd this (by show ¬ (j : Int) = -1; omega)
/-- who has a part, as bits -/
theorem q_tkN (v : qV) (m : Nat) {np : Nat} (hnp : np ≤ 10) : ∀ k, k ≤ 4 → ∃ T, T < 1024 ∧ q_tk v m np k = nI T ∧ ∀ j, j < 10 → (T.testBit j = true ↔ ∃ k2, k2 < k ∧ q_pl v m np k2 = nI j)
  | 0, _ => ⟨0, by decide, rfl, fun j _ => ⟨fun h => absurd h (by rw [Nat.zero_testBit]; decide), fun ⟨k2, h, _⟩ => absurd h (Nat.not_lt_zero _)⟩⟩
  | k + 1, hk => by
    obtain ⟨T, t1, t2, t3⟩ := q_tkN v m hnp k (by omega)
    rw [q_tk]
    rcases q_bst_cases v m k (q_tk v m np k) np with h | ⟨b, h1, h2⟩
    · rw [decide_eq_true h]
      refine ⟨T, t1, t2, fun j hj => (t3 j hj).trans ⟨fun ⟨k2, a, c⟩ => ⟨k2, by omega, c⟩, fun ⟨k2, a, c⟩ => ?_⟩⟩
      by_cases hq : k2 = k
      · subst hq
        exact absurd (c.symm.trans h) (q_nIne (by omega))
      · exact ⟨k2, by omega, c⟩
    · have hne : ¬ q_bst v m k (q_tk v m np k) np = -1 := by rw [h2]; exact q_nIne (by omega)
      rw [decide_eq_false hne, h2, q_bit (by omega), t2]
      refine ⟨T ||| 2 ^ b, Nat.or_lt_two_pow (n := 10) t1 (Nat.pow_lt_pow_right (by decide) (by omega)), q_or _ _, fun j hj => ?_⟩
      rw [Nat.testBit_or, Nat.testBit_two_pow, Bool.or_eq_true, t3 j hj, decide_eq_true_eq]
      constructor
      · rintro (⟨k2, a, c⟩ | rfl)
        · exact ⟨k2, by omega, c⟩
        · exact ⟨k, by omega, h2⟩
      · rintro ⟨k2, a, c⟩
        by_cases hq : k2 = k
        · subst hq
          exact Or.inr ((nI_eq (by omega) (by omega)).mp (h2.symm.trans c))
        · exact Or.inl ⟨k2, by omega, c⟩
theorem q_pl_ne {m k k2 j : Nat} (hnp : np ≤ 10) (hk : k < 4) (h2 : k2 < k) (h : q_pl v m np k = nI j) (hj : j < 10) : q_pl v m np k2 ≠ nI j := by
  intro z
  obtain ⟨T, t1, t2, t3⟩ := q_tkN v m hnp k (by omega)
  rcases q_bst_free v m k (q_tk v m np k) np with y | ⟨b, y1, y2, y3⟩
  · exact q_nIne (j := j) (by omega) (h.symm.trans y)
  · have : b = j := (nI_eq (by omega) (by omega)).mp (y2.symm.trans h)
    subst this
    rw [t2, q_free T t1 b hj, (t3 b hj).mpr ⟨k2, h2, z⟩] at y3
    exact absurd y3 (by decide)
theorem q_pl_could (v : qV) (m np k : Nat) : q_pl v m np k = -1 ∨ ∃ j, j < np ∧ q_pl v m np k = nI j ∧ q_could v j m k = true := q_bst_could v m k _ np
theorem q_could_all {j m k : Nat} (h : q_could v j m k = true) : q_plays v j = true ∧ q_its v (q_has v j - 1) 0 = nI (q_kf m k) ∧ (¬ q_of v j 1 < nI (4 + 2 * k)) ∧ ¬ q_of v j 2 < q_lf m k := by
  unfold q_could at h
  rw [Bool.and_eq_true, Bool.and_eq_true, Bool.and_eq_true, decide_eq_true_eq, decide_eq_true_eq, decide_eq_true_eq] at h
  exact h
/-- a row within a march -/
theorem q_mr_all {m : Nat} (h : q_inv B v np ni nl) : ∀ k, k ≤ 4 → (∀ p, p < np → (∃ k2, k2 < k ∧ q_pl v m np k2 = nI p ∧ q_of (q_mr v m np k) p 1 = q_of v p 1 - nI (4 + 2 * k2)) ∨ ((∀ k2, k2 < k → q_pl v m np k2 ≠ nI p) ∧ q_of (q_mr v m np k) p 1 = q_of v p 1)) ∧ (∀ i, i < ni → ∃ d, d ≤ 9 ∧ q_its (q_mr v m np k) i 1 = nI d) ∧ ∀ j, (∀ p, p < np → j ≠ 16 + 7 * p + 1 ∧ j ≠ 16 + 7 * p + 6) → (∀ i, i < ni → j ≠ 86 + 5 * i + 1 ∧ j ≠ 86 + 5 * i + 3 ∧ j ≠ 86 + 5 * i + 4) → q_mr v m np k j = v j
  | 0, _ => ⟨fun p _ => Or.inr ⟨fun k2 a => absurd a (Nat.not_lt_zero _), rfl⟩, fun i q => by
      obtain ⟨k, d, l, ⟨e1, e2, e3⟩, f, g⟩ := h.2.2.1 i q
      exact ⟨d, f.2.1, e2⟩, fun _ _ _ => rfl⟩
  | k + 1, hk => by
    obtain ⟨a1, a2, a3⟩ := q_mr_all h k (by omega)
    have h1 := h.1.1
    have h2 := h.1.2.1
    rw [q_mr]
    rcases q_pl_could v m np k with y | ⟨b, y1, y2, y3⟩
    · rw [decide_eq_true y]
      refine ⟨fun p q => ?_, a2, a3⟩
      rcases a1 p q with ⟨k2, x1, x2, x3⟩ | ⟨x1, x2⟩
      · exact Or.inl ⟨k2, by omega, x2, x3⟩
      · refine Or.inr ⟨fun k2 z1 z2 => ?_, x2⟩
        by_cases hq : k2 = k
        · subst hq
          exact q_nIne (by omega) (z2.symm.trans y)
        · exact x1 k2 (by omega) z2
    · have hne : ¬ q_pl v m np k = -1 := by rw [y2]; exact q_nIne (by omega)
      obtain ⟨i, kk, j1, j2, j3, j4, j5, j6⟩ := h.plays y1 (q_could_all y3).1
      rw [decide_eq_false hne, y2, nI_clamp (by omega), j2, Nat.add_sub_cancel, cond_false]
      generalize hu : q_mr v m np k = u at *
      have o1 : ∀ p, p < 10 → p ≠ b → q_one u b i k (16 + 7 * p + 1) = u (16 + 7 * p + 1) := fun p _ _ => q_one_at (by omega)
      have o2 : q_one u b i k (16 + 7 * b + 1) = q_of u b 1 - nI (4 + 2 * k) := by
        unfold q_one q_dents
        rw [q_un (by omega), q_un (by omega), q_un (by omega), q_un (by omega), q_ue]
      refine ⟨fun p q => ?_, fun i2 q => ?_, fun j c1 c2 => ?_⟩
      · by_cases hp : p = b
        · subst hp
          refine Or.inl ⟨k, by omega, y2, ?_⟩
          show q_one u p i k (16 + 7 * p + 1) = _
          rw [o2]
          rcases a1 p q with ⟨k2, x1, x2, x3⟩ | ⟨x1, x2⟩
          · exact absurd x2 (q_pl_ne h1 (by omega) x1 y2 (by omega))
          · rw [x2]
        · rcases a1 p q with ⟨k2, x1, x2, x3⟩ | ⟨x1, x2⟩
          · exact Or.inl ⟨k2, by omega, x2, by show q_one u b i k (16 + 7 * p + 1) = _; rw [o1 p (by omega) hp]; exact x3⟩
          · refine Or.inr ⟨fun k2 z1 z2 => ?_, by show q_one u b i k (16 + 7 * p + 1) = _; rw [o1 p (by omega) hp]; exact x2⟩
            by_cases hq : k2 = k
            · subst hq
              exact hp ((nI_eq (by omega) (by omega)).mp (z2.symm.trans y2))
            · exact x1 k2 (by omega) z2
      · obtain ⟨d, d1, d2⟩ := a2 i2 q
        by_cases hq : i2 = i
        · subst hq
          have e1 : q_its (upd (upd (upd u (16 + 7 * b + 1) (q_of u b 1 - nI (4 + 2 * k))) (16 + 7 * b + 6) (q_of u b 6 + 1)) (86 + 5 * i2 + 3) (q_its u i2 3 + 1)) i2 1 = nI d := by
            rw [q_its, q_un (by omega), q_un (by omega), q_un (by omega)]
            exact d2
          unfold q_one
          generalize upd (upd (upd u (16 + 7 * b + 1) (q_of u b 1 - nI (4 + 2 * k))) (16 + 7 * b + 6) (q_of u b 6 + 1)) (86 + 5 * i2 + 3) (q_its u i2 3 + 1) = w at *
          unfold q_dents
          rw [q_its, q_un (by omega), q_ue]
          split
          · exact q_ii_dents (n := 1) e1 d1 (by decide)
          · exact q_ii_dents (n := 0) e1 d1 (by decide)
        · exact ⟨d, d1, by rw [q_its, q_one_at (by omega)]; exact d2⟩
      · have c1b := c1 b y1
        have c2b := c2 i j1
        rw [q_one_at ⟨c1b.1, c1b.2, c2b.2.1, c2b.1, c2b.2.2⟩]
        exact a3 j c1 c2
theorem q_march_at {m j : Nat} (a : j ≠ 4) (b : j ≠ 6) (c : j ≠ 7) (d : j ≠ 9) (e : j ≠ 8) : q_march v m np j = q_mr v m np 4 j := by
  unfold q_march
  rw [q_un e, q_un d, q_un c, q_un b, q_un a]
theorem q_inv_march {m : Nat} (h : q_inv B v np ni nl) (hm : m < 4) : q_inv (B + 1) (q_march v m np) np ni nl := by
  obtain ⟨a1, a2, a3⟩ := q_mr_all (m := m) h 4 (by omega)
  have hh := h
  obtain ⟨⟨h1, h2, h3, h4, h5, h6⟩, hpp, hii, ⟨l1, l2⟩, ⟨z1, z2⟩, h7, mm, s, m1, m2, m3, m4⟩ := hh
  have e : ∀ j, j ≠ 4 → j ≠ 6 → j ≠ 7 → j ≠ 9 → j ≠ 8 → (∀ p, p < np → j ≠ 16 + 7 * p + 1 ∧ j ≠ 16 + 7 * p + 6) → (∀ i, i < ni → j ≠ 86 + 5 * i + 1 ∧ j ≠ 86 + 5 * i + 3 ∧ j ≠ 86 + 5 * i + 4) → q_march v m np j = v j := fun j a b c d e f g => (q_march_at a b c d e).trans (a3 j f g)
  have hs := q_sh_le v m np 4
  have x4 : q_march v m np 4 = 1 := by unfold q_march; rw [q_un (by omega), q_un (by omega), q_un (by omega), q_un (by omega), q_ue]
  have x6 : q_march v m np 6 = nI (mm + 1) := by unfold q_march; rw [q_un (by omega), q_un (by omega), q_un (by omega), q_ue, m1, nI_1]
  have x7 : q_march v m np 7 = nI (s + q_sh v m np 4) := by unfold q_march; rw [q_un (by omega), q_un (by omega), q_ue, m2, nI_add]
  refine h.step ⟨e _ (by omega) (by omega) (by omega) (by omega) (by omega) (fun _ _ => by omega) (fun _ _ => by omega), e _ (by omega) (by omega) (by omega) (by omega) (by omega) (fun _ _ => by omega) (fun _ _ => by omega), e _ (by omega) (by omega) (by omega) (by omega) (by omega) (fun _ _ => by omega) (fun _ _ => by omega)⟩ (fun p2 q => ?_) (fun i2 q => ?_) ⟨fun k q => ?_, fun j k a b => ?_⟩ (fun j a => e j (by omega) (by omega) (by omega) (by omega) (by omega) (fun _ _ => by omega) (fun _ _ => by omega)) (Or.inr x4) ⟨mm + 1, s + q_sh v m np 4, x6, x7, by omega, by omega⟩
  · obtain ⟨a, b, c, d, ⟨e1, e2, e3, e4⟩, f, g1, g2⟩ := hpp p2 q
    have hb : ∃ b2, q_of (q_march v m np) p2 1 = nI b2 ∧ b2 ≤ b := by
      rw [q_of, q_march_at (by omega) (by omega) (by omega) (by omega) (by omega)]
      rcases a1 p2 q with ⟨k2, x1, x2, x3⟩ | ⟨x1, x2⟩
      · rcases q_pl_could v m np k2 with y | ⟨t, y1, y2, y3⟩
        · exact absurd (x2.symm.trans y) (q_nIne (by omega))
        · have ht : t = p2 := (nI_eq (by omega) (by omega)).mp (y2.symm.trans x2)
          rw [ht] at y3
          have w := (q_could_all y3).2.2.1
          rw [e2] at w x3
          have w : ¬ b < 4 + 2 * k2 := fun z => w (nI_lt z (by omega))
          exact ⟨b - (4 + 2 * k2), x3.trans (q_sub (by omega)), by omega⟩
      · exact ⟨b, x2.trans e2, Nat.le_refl _⟩
    obtain ⟨b2, hb1, hb2⟩ := hb
    refine ⟨a, b2, c, d, ⟨?_, hb1, ?_, ?_⟩, ⟨f.1, f.2.1, by omega, f.2.2.2⟩, ?_, fun y => ?_⟩
    · rw [q_of, e _ (by omega) (by omega) (by omega) (by omega) (by omega) (fun _ _ => by omega) (fun _ _ => by omega)]; exact e1
    · rw [q_of, e _ (by omega) (by omega) (by omega) (by omega) (by omega) (fun _ _ => by omega) (fun _ _ => by omega)]; exact e3
    · rw [q_of, e _ (by omega) (by omega) (by omega) (by omega) (by omega) (fun _ _ => by omega) (fun _ _ => by omega)]; exact e4
    · rw [q_of, e _ (by omega) (by omega) (by omega) (by omega) (by omega) (fun _ _ => by omega) (fun _ _ => by omega)]; exact g1
    · rw [q_its, e _ (by omega) (by omega) (by omega) (by omega) (by omega) (fun _ _ => by omega) (fun _ _ => by omega)]; exact g2 y
  · obtain ⟨k, d, l, ⟨e1, e2, e3⟩, f, g⟩ := hii i2 q
    obtain ⟨d2, d3, d4⟩ := a2 i2 q
    refine ⟨k, d2, l, ⟨?_, ?_, ?_⟩, ⟨f.1, d3, f.2.2⟩, fun y => ?_⟩
    · rw [q_its, e _ (by omega) (by omega) (by omega) (by omega) (by omega) (fun _ _ => by omega) (fun _ _ => by omega)]; exact e1
    · rw [q_its, q_march_at (by omega) (by omega) (by omega) (by omega) (by omega)]; exact d4
    · rw [q_its, e _ (by omega) (by omega) (by omega) (by omega) (by omega) (fun _ _ => by omega) (fun _ _ => by omega)]; exact e3
    · rw [q_of, e _ (by omega) (by omega) (by omega) (by omega) (by omega) (fun _ _ => by omega) (fun _ _ => by omega)]; exact g y
  · obtain ⟨i3, a, b, c⟩ := l1 k q
    exact ⟨i3, a, by rw [e _ (by omega) (by omega) (by omega) (by omega) (by omega) (fun _ _ => by omega) (fun _ _ => by omega)]; exact b, by rw [q_its, e _ (by omega) (by omega) (by omega) (by omega) (by omega) (fun _ _ => by omega) (fun _ _ => by omega)]; exact c⟩
  · rw [e _ (by omega) (by omega) (by omega) (by omega) (by omega) (fun _ _ => by omega) (fun _ _ => by omega), e _ (by omega) (by omega) (by omega) (by omega) (by omega) (fun _ _ => by omega) (fun _ _ => by omega)]; exact l2 j k a b
end Rows3
