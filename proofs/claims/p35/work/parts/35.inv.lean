/-! What rows keep. Own work. -/
section Rows
theorem q_uq {f : Nat → Int32} {k j : Nat} {x : Int32} (h : j = k) : upd f k x j = x := by subst h; exact q_ue
/-- a pupil, an instrument, the loans, what is empty, the marches of a row -/
def q_pp (v : qV) (ni p : Nat) : Prop := ∃ a b c h : Nat, (q_of v p 0 = nI a ∧ q_of v p 1 = nI b ∧ q_of v p 2 = nI c ∧ q_of v p 4 = nI h) ∧ (5 ≤ a ∧ a ≤ 30 ∧ b ≤ a ∧ 1 ≤ c ∧ c ≤ 20 ∧ h ≤ ni) ∧ (q_of v p 5 = 0 ∨ q_of v p 5 = 1) ∧ (0 < h → q_its v (h - 1) 2 = nI (p + 1))
def q_ii (v : qV) (np i : Nat) : Prop := ∃ k d l : Nat, (q_its v i 0 = nI k ∧ q_its v i 1 = nI d ∧ q_its v i 2 = nI l) ∧ (k < 4 ∧ d ≤ 9 ∧ l ≤ np) ∧ (0 < l → q_of v (l - 1) 4 = nI (i + 1))
def q_ll (v : qV) (ni nl : Nat) : Prop := (∀ k, k < nl → ∃ i, i < ni ∧ v (136 + k) = nI i ∧ q_its v i 2 ≠ 0) ∧ ∀ j k, j < k → k < nl → v (136 + j) ≠ v (136 + k)
def q_zz (v : qV) (np ni : Nat) : Prop := (∀ j, 16 + 7 * np ≤ j → j < 86 → v j = 0) ∧ ∀ j, 86 + 5 * ni ≤ j → j < 136 → v j = 0
def q_mm (B : Nat) (v : qV) : Prop := ∃ m s, v 6 = nI m ∧ v 7 = nI s ∧ s ≤ 4 * m ∧ m ≤ B
def q_inv (B : Nat) (v : qV) (np ni nl : Nat) : Prop := (np ≤ 10 ∧ ni ≤ 10 ∧ nl ≤ 10 ∧ v 0 = nI np ∧ v 1 = nI ni ∧ v 2 = nI nl) ∧ (∀ p, p < np → q_pp v ni p) ∧ (∀ i, i < ni → q_ii v np i) ∧ q_ll v ni nl ∧ q_zz v np ni ∧ (v 4 = 0 ∨ v 4 = 1) ∧ q_mm B v
variable {v v2 : qV} {B np ni nl : Nat}
theorem q_inv.ok0 (h : q_inv B v np ni nl) : q_ok0 v np ni := by
  obtain ⟨⟨h1, h2, h3, h4, h5, h6⟩, hp, -⟩ := h
  refine ⟨h1, h2, h4, h5, fun p q => ?_⟩
  obtain ⟨a, b, c, d, e1, e2, -⟩ := hp p q
  exact ⟨d, e2.2.2.2.2.2, e1.2.2.2⟩
theorem q_inv.mono {B2 : Nat} (h : q_inv B v np ni nl) (hB : B ≤ B2) : q_inv B2 v np ni nl := by
  obtain ⟨h1, h2, h3, h4, h5, h6, m, s, h7, h8, h9, h10⟩ := h
  exact ⟨h1, h2, h3, h4, h5, h6, m, s, h7, h8, h9, Nat.le_trans h10 hB⟩
/-- a row that is the same where it counts -/
theorem q_inv.same (h : q_inv B v np ni nl) (e : ∀ j, j < 146 → j ≠ 3 → j ≠ 5 → (j < 8 ∨ 16 ≤ j) → (∀ p, p < np → j ≠ 16 + 7 * p + 3 ∧ j ≠ 16 + 7 * p + 6) → (∀ i, i < ni → j ≠ 86 + 5 * i + 3 ∧ j ≠ 86 + 5 * i + 4) → v2 j = v j) : q_inv B v2 np ni nl := by
  obtain ⟨⟨h1, h2, h3, h4, h5, h6⟩, hp, hi, ⟨l1, l2⟩, ⟨z1, z2⟩, h7, m, s, m1, m2, m3⟩ := h
  have s0 : ∀ j, j < 8 → j ≠ 3 → j ≠ 5 → v2 j = v j := fun j a b c => e j (by omega) b c (by omega) (fun _ _ => by omega) (fun _ _ => by omega)
  have sp : ∀ p w, p < 10 → w < 7 → w ≠ 3 → w ≠ 6 → v2 (16 + 7 * p + w) = v (16 + 7 * p + w) := fun p w a b c d => e _ (by omega) (by omega) (by omega) (by omega) (fun _ _ => by omega) (fun _ _ => by omega)
  have si : ∀ i w, i < 10 → w < 3 → v2 (86 + 5 * i + w) = v (86 + 5 * i + w) := fun i w a b => e _ (by omega) (by omega) (by omega) (by omega) (fun _ _ => by omega) (fun _ _ => by omega)
  have sl : ∀ k, k < 10 → v2 (136 + k) = v (136 + k) := fun k a => e _ (by omega) (by omega) (by omega) (by omega) (fun _ _ => by omega) (fun _ _ => by omega)
  refine ⟨⟨h1, h2, h3, by rw [s0 0 (by decide) (by decide) (by decide)]; exact h4, by rw [s0 1 (by decide) (by decide) (by decide)]; exact h5, by rw [s0 2 (by decide) (by decide) (by decide)]; exact h6⟩, fun p q => ?_, fun i q => ?_, ⟨fun k q => ?_, fun j k a b => ?_⟩, ⟨fun j a b => ?_, fun j a b => ?_⟩, ?_, m, s, ?_, ?_, m3⟩
  · obtain ⟨a, b, c, d, ⟨e1, e2, e3, e4⟩, f, g1, g2⟩ := hp p q
    refine ⟨a, b, c, d, ⟨?_, ?_, ?_, ?_⟩, f, ?_, fun y => ?_⟩
    · rw [q_of, sp p 0 (by omega) (by decide) (by decide) (by decide)]; exact e1
    · rw [q_of, sp p 1 (by omega) (by decide) (by decide) (by decide)]; exact e2
    · rw [q_of, sp p 2 (by omega) (by decide) (by decide) (by decide)]; exact e3
    · rw [q_of, sp p 4 (by omega) (by decide) (by decide) (by decide)]; exact e4
    · rw [q_of, sp p 5 (by omega) (by decide) (by decide) (by decide)]; exact g1
    · rw [q_its, si (d - 1) 2 (by omega) (by decide)]; exact g2 y
  · obtain ⟨k, d, l, ⟨e1, e2, e3⟩, f, g⟩ := hi i q
    refine ⟨k, d, l, ⟨?_, ?_, ?_⟩, f, fun y => ?_⟩
    · rw [q_its, si i 0 (by omega) (by decide)]; exact e1
    · rw [q_its, si i 1 (by omega) (by decide)]; exact e2
    · rw [q_its, si i 2 (by omega) (by decide)]; exact e3
    · rw [q_of, sp (l - 1) 4 (by omega) (by decide) (by decide) (by decide)]; exact g y
  · obtain ⟨i, a, b, c⟩ := l1 k q
    exact ⟨i, a, by rw [sl k (by omega)]; exact b, by rw [q_its, si i 2 (by omega) (by decide)]; exact c⟩
  · rw [sl j (by omega), sl k (by omega)]; exact l2 j k a b
  · rw [e j (by omega) (by omega) (by omega) (by omega) (fun _ _ => by omega) (fun _ _ => by omega)]; exact z1 j a b
  · rw [e j (by omega) (by omega) (by omega) (by omega) (fun _ _ => by omega) (fun _ _ => by omega)]; exact z2 j a b
  · rw [s0 4 (by decide) (by decide) (by decide)]; exact h7
  · rw [s0 6 (by decide) (by decide) (by decide)]; exact m1
  · rw [s0 7 (by decide) (by decide) (by decide)]; exact m2
theorem q_inv_pay {p : Nat} {y : Int32} (h : q_inv B v np ni nl) (hp : p < np) : q_inv B (q_pay v p y) np ni nl := by
  have h10 := h.1.1
  refine h.same (fun j a b c d e f => ?_)
  have := e p hp
  unfold q_pay
  simp (disch := omega) only [q_un]
theorem q_inv_set {k : Nat} {y : Int32} (h : q_inv B v np ni nl) (hk : k < 3) : q_inv B (upd v (13 + k) y) np ni nl :=
  h.same (fun j a b c d e f => q_un (by omega))
theorem q_inv_cp {u : qV} (h : q_inv B u np ni nl) : q_inv B (q_cp u v) np ni nl :=
  h.same (fun j a b c d e f => if_pos a)
/-- a row changed at few places -/
theorem q_inv.step (h : q_inv B v np ni nl) (e0 : v2 0 = v 0 ∧ v2 1 = v 1 ∧ v2 2 = v 2) (hp : ∀ p, p < np → q_pp v2 ni p) (hi : ∀ i, i < ni → q_ii v2 np i) (hl : q_ll v2 ni nl) (hz : ∀ j, (16 + 7 * np ≤ j ∧ j < 86) ∨ (86 + 5 * ni ≤ j ∧ j < 136) → v2 j = v j) (h4 : v2 4 = 0 ∨ v2 4 = 1) {B2 : Nat} (hm : q_mm B2 v2) : q_inv B2 v2 np ni nl := by
  obtain ⟨⟨h1, h2, h3, h4, h5, h6⟩, -, -, -, ⟨z1, z2⟩, -⟩ := h
  exact ⟨⟨h1, h2, h3, e0.1.trans h4, e0.2.1.trans h5, e0.2.2.trans h6⟩, hp, hi, hl, ⟨fun j a b => (hz j (Or.inl ⟨a, b⟩)).trans (z1 j a b), fun j a b => (hz j (Or.inr ⟨a, b⟩)).trans (z2 j a b)⟩, by assumption, hm⟩
theorem q_ii_dents {i d : Nat} (hi : q_its v i 1 = nI d) (hd : d ≤ 9) {n : Nat} (hn : n ≤ 9) : ∃ d2, d2 ≤ 9 ∧ q_dn v i (nI n) = nI d2 := by
  unfold q_dn
  rw [hi, nI_add]
  split
  · exact ⟨9, by decide, rfl⟩
  · rename_i z
    refine ⟨d + n, Nat.not_lt.mp (fun y => z ?_), rfl⟩
    exact nI_lt y (by omega)
theorem q_inv_dents {i n : Nat} (h : q_inv B v np ni nl) (hi : i < ni) (hn : n ≤ 9) : q_inv B (q_dents v i (nI n)) np ni nl := by
  have hh := h
  obtain ⟨⟨h1, h2, h3, h4, h5, h6⟩, hp, hii, ⟨l1, l2⟩, ⟨z1, z2⟩, h7, m, s, m1, m2, m3⟩ := hh
  have e : ∀ j, j ≠ 86 + 5 * i + 1 → j ≠ 86 + 5 * i + 4 → q_dents v i (nI n) j = v j := fun j a b => by unfold q_dents; rw [q_un b, q_un a]
  refine h.step ⟨e _ (by omega) (by omega), e _ (by omega) (by omega), e _ (by omega) (by omega)⟩ (fun p q => ?_) (fun i2 q => ?_) ⟨fun k q => ?_, fun j k a b => ?_⟩ (fun j a => e j (by omega) (by omega)) ?_ ⟨m, s, ?_, ?_, m3⟩
  · obtain ⟨a, b, c, d, ⟨e1, e2, e3, e4⟩, f, g1, g2⟩ := hp p q
    refine ⟨a, b, c, d, ⟨?_, ?_, ?_, ?_⟩, f, ?_, fun y => ?_⟩
    · rw [q_of, e _ (by omega) (by omega)]; exact e1
    · rw [q_of, e _ (by omega) (by omega)]; exact e2
    · rw [q_of, e _ (by omega) (by omega)]; exact e3
    · rw [q_of, e _ (by omega) (by omega)]; exact e4
    · rw [q_of, e _ (by omega) (by omega)]; exact g1
    · rw [q_its, e _ (by omega) (by omega)]; exact g2 y
  · obtain ⟨k, d, l, ⟨e1, e2, e3⟩, f, g⟩ := hii i2 q
    by_cases hq : i2 = i
    · subst hq
      obtain ⟨d2, hd2, ed2⟩ := q_ii_dents e2 f.2.1 hn
      refine ⟨k, d2, l, ⟨?_, ?_, ?_⟩, ⟨f.1, hd2, f.2.2⟩, fun y => ?_⟩
      · rw [q_its, e _ (by omega) (by omega)]; exact e1
      · rw [q_its, q_dents, q_un (by omega), q_ue]; exact ed2
      · rw [q_its, e _ (by omega) (by omega)]; exact e3
      · rw [q_of, e _ (by omega) (by omega)]; exact g y
    · refine ⟨k, d, l, ⟨?_, ?_, ?_⟩, f, fun y => ?_⟩
      · rw [q_its, e _ (by omega) (by omega)]; exact e1
      · rw [q_its, e _ (by omega) (by omega)]; exact e2
      · rw [q_its, e _ (by omega) (by omega)]; exact e3
      · rw [q_of, e _ (by omega) (by omega)]; exact g y
  · obtain ⟨i3, a, b, c⟩ := l1 k q
    exact ⟨i3, a, by rw [e _ (by omega) (by omega)]; exact b, by rw [q_its, e _ (by omega) (by omega)]; exact c⟩
  · rw [e _ (by omega) (by omega), e _ (by omega) (by omega)]; exact l2 j k a b
  · rw [e _ (by omega) (by omega)]; exact h7
  · rw [e _ (by omega) (by omega)]; exact m1
  · rw [e _ (by omega) (by omega)]; exact m2
theorem q_inv_mend {i : Nat} (h : q_inv B v np ni nl) (hi : i < ni) : q_inv B (q_mend v i) np ni nl := by
  have hh := h
  obtain ⟨⟨h1, h2, h3, h4, h5, h6⟩, hp, hii, ⟨l1, l2⟩, ⟨z1, z2⟩, h7, m, s, m1, m2, m3⟩ := hh
  have e : ∀ j, j ≠ 86 + 5 * i + 1 → j ≠ 12 → j ≠ 8 → q_mend v i j = v j := fun j a b c => by unfold q_mend; rw [q_un c, q_un b, q_un a]
  refine h.step ⟨e _ (by omega) (by omega) (by omega), e _ (by omega) (by omega) (by omega), e _ (by omega) (by omega) (by omega)⟩ (fun p q => ?_) (fun i2 q => ?_) ⟨fun k q => ?_, fun j k a b => ?_⟩ (fun j a => e j (by omega) (by omega) (by omega)) ?_ ⟨m, s, ?_, ?_, m3⟩
  · obtain ⟨a, b, c, d, ⟨e1, e2, e3, e4⟩, f, g1, g2⟩ := hp p q
    refine ⟨a, b, c, d, ⟨?_, ?_, ?_, ?_⟩, f, ?_, fun y => ?_⟩
    · rw [q_of, e _ (by omega) (by omega) (by omega)]; exact e1
    · rw [q_of, e _ (by omega) (by omega) (by omega)]; exact e2
    · rw [q_of, e _ (by omega) (by omega) (by omega)]; exact e3
    · rw [q_of, e _ (by omega) (by omega) (by omega)]; exact e4
    · rw [q_of, e _ (by omega) (by omega) (by omega)]; exact g1
    · rw [q_its, e _ (by omega) (by omega) (by omega)]; exact g2 y
  · obtain ⟨k, d, l, ⟨e1, e2, e3⟩, f, g⟩ := hii i2 q
    by_cases hq : i2 = i
    · subst hq
      refine ⟨k, 0, l, ⟨?_, ?_, ?_⟩, ⟨f.1, by decide, f.2.2⟩, fun y => ?_⟩
      · rw [q_its, e _ (by omega) (by omega) (by omega)]; exact e1
      · rw [q_its, q_mend, q_un (by omega), q_un (by omega), q_ue]; rfl
      · rw [q_its, e _ (by omega) (by omega) (by omega)]; exact e3
      · rw [q_of, e _ (by omega) (by omega) (by omega)]; exact g y
    · refine ⟨k, d, l, ⟨?_, ?_, ?_⟩, f, fun y => ?_⟩
      · rw [q_its, e _ (by omega) (by omega) (by omega)]; exact e1
      · rw [q_its, e _ (by omega) (by omega) (by omega)]; exact e2
      · rw [q_its, e _ (by omega) (by omega) (by omega)]; exact e3
      · rw [q_of, e _ (by omega) (by omega) (by omega)]; exact g y
  · obtain ⟨i3, a, b, c⟩ := l1 k q
    exact ⟨i3, a, by rw [e _ (by omega) (by omega) (by omega)]; exact b, by rw [q_its, e _ (by omega) (by omega) (by omega)]; exact c⟩
  · rw [e _ (by omega) (by omega) (by omega), e _ (by omega) (by omega) (by omega)]; exact l2 j k a b
  · rw [e _ (by omega) (by omega) (by omega)]; exact h7
  · rw [e _ (by omega) (by omega) (by omega)]; exact m1
  · rw [e _ (by omega) (by omega) (by omega)]; exact m2
/-- n different numbers below m -/
theorem q_pig : ∀ (m n : Nat) (f : Nat → Nat), (∀ k, k < n → f k < m) → (∀ j k, j < k → k < n → f j ≠ f k) → n ≤ m := by
  intro m
  induction m with
  | zero =>
    intro n f h _
    rcases Nat.eq_zero_or_pos n with rfl | z
    · exact Nat.le_refl _
    · exact absurd (h 0 z) (Nat.not_lt_zero _)
  | succ m ih =>
    intro n f h1 h2
    by_cases hk : ∃ k, k < n ∧ f k = m
    · obtain ⟨k, k1, k2⟩ := hk
      have := ih (n - 1) (fun j => if j < k then f j else f (j + 1)) (fun j hj => ?_) (fun i j hij hj => ?_)
      · omega
      · show (if j < k then f j else f (j + 1)) < m
        split
        · have a := h1 j (by omega)
          have b := h2 j k (by omega) (by omega)
          omega
        · have a := h1 (j + 1) (by omega)
          have b := h2 k (j + 1) (by omega) (by omega)
          omega
      · show (if i < k then f i else f (i + 1)) ≠ (if j < k then f j else f (j + 1))
        split
        · split
          · exact h2 i j hij (by omega)
          · exact h2 i (j + 1) (by omega) (by omega)
        · rw [if_neg (by omega)]
          exact h2 (i + 1) (j + 1) (by omega) (by omega)
    · refine Nat.le_succ_of_le (ih n f (fun k q => ?_) h2)
      have a := h1 k q
      have b : f k ≠ m := fun z => hk ⟨k, q, z⟩
      omega
theorem q_nI0n {n : Nat} (h : n < 65536) (z : ¬ 0 < nI n) : n = 0 := by
  rcases Nat.eq_zero_or_pos n with y | y
  · exact y
  · exact absurd (nI_lt y (by omega)) z
theorem q_whyLoan_0 {i p : Nat} (h : q_whyLoan v i p = 0) : (¬ 0 < q_its v i 2) ∧ (¬ 0 < q_of v p 4) ∧ q_its v i 1 < 5 ∧ (¬ v 14 < q_of v p 3) ∧ ¬ q_of v p 0 < 3 * q_its v i 0 + 5 := by
  unfold q_whyLoan at h
  by_cases c1 : 0 < q_its v i 2
  · rw [if_pos c1] at h; exact absurd h (by decide)
  by_cases c2 : 0 < q_of v p 4
  · rw [if_neg c1, if_pos c2] at h; exact absurd h (by decide)
  by_cases c3 : q_its v i 1 < 5
  · by_cases c4 : v 14 < q_of v p 3
    · rw [if_neg c1, if_neg c2, if_neg (fun z => z c3), if_pos c4] at h; exact absurd h (by decide)
    by_cases c5 : q_of v p 0 < 3 * q_its v i 0 + 5
    · rw [if_neg c1, if_neg c2, if_neg (fun z => z c3), if_neg c4, if_pos c5] at h; exact absurd h (by decide)
    exact ⟨c1, c2, c3, c4, c5⟩
  · rw [if_neg c1, if_neg c2, if_pos c3] at h; exact absurd h (by decide)
theorem q_inv_lend {i p : Nat} (h : q_inv B v np ni nl) (hi : i < ni) (hp : p < np) (hw : q_whyLoan v i p = 0) : nl < 10 ∧ q_inv B (q_lend v nl i p) np ni (nl + 1) := by
  obtain ⟨w1, w2, -⟩ := q_whyLoan_0 hw
  obtain ⟨⟨h1, h2, h3, h4, h5, h6⟩, hpp, hii, ⟨l1, l2⟩, ⟨z1, z2⟩, h7, m, s, m1, m2, m3⟩ := h
  have f2 : q_its v i 2 = 0 := by
    obtain ⟨k, d, l, ⟨e1, e2, e3⟩, f, g⟩ := hii i hi
    rw [e3] at w1
    rw [e3, q_nI0n (by omega) w1]
    rfl
  have f4 : q_of v p 4 = 0 := by
    obtain ⟨a, b, c, d, ⟨e1, e2, e3, e4⟩, f, g1, g2⟩ := hpp p hp
    rw [e4] at w2
    rw [e4, q_nI0n (by omega) w2]
    rfl
  have hnl : nl + 1 ≤ ni := by
    refine q_pig ni (nl + 1) (fun k => if k < nl then (v (136 + k)).toNatClampNeg else i) (fun k q => ?_) (fun j k a b => ?_)
    · show (if k < nl then (v (136 + k)).toNatClampNeg else i) < ni
      split
      · rename_i y
        obtain ⟨i3, a, b, c⟩ := l1 k y
        rw [b, nI_clamp (by omega)]
        exact a
      · exact hi
    · show (if j < nl then (v (136 + j)).toNatClampNeg else i) ≠ (if k < nl then (v (136 + k)).toNatClampNeg else i)
      obtain ⟨ij, a1, b1, c1⟩ := l1 j (by omega)
      rw [if_pos (by omega), b1, nI_clamp (by omega)]
      split
      · rename_i y
        obtain ⟨ik, a2, b2, c2⟩ := l1 k y
        rw [b2, nI_clamp (by omega)]
        intro z
        exact l2 j k a y (by rw [b1, b2, z])
      · intro z
        rw [z] at c1
        exact c1 f2
  have e : ∀ j, j ≠ 86 + 5 * i + 2 → j ≠ 86 + 5 * i + 4 → j ≠ 16 + 7 * p + 4 → j ≠ 136 + nl → j ≠ 2 → q_lend v nl i p j = v j := fun j a b c d e => by unfold q_lend; rw [q_un e, q_un d, q_un c, q_un b, q_un a]
  have x1 : q_lend v nl i p (86 + 5 * i + 2) = nI (p + 1) := by unfold q_lend; rw [q_un (by omega), q_un (by omega), q_un (by omega), q_un (by omega), q_ue]
  have x2 : q_lend v nl i p (16 + 7 * p + 4) = nI (i + 1) := by unfold q_lend; rw [q_un (by omega), q_un (by omega), q_ue]
  have x3 : q_lend v nl i p (136 + nl) = nI i := by unfold q_lend; rw [q_un (by omega), q_ue]
  have x4 : q_lend v nl i p 2 = nI (nl + 1) := by unfold q_lend; rw [q_ue]
  refine ⟨by omega, ⟨h1, h2, by omega, by rw [e _ (by omega) (by omega) (by omega) (by omega) (by omega)]; exact h4, by rw [e _ (by omega) (by omega) (by omega) (by omega) (by omega)]; exact h5, x4⟩, fun p2 q => ?_, fun i2 q => ?_, ⟨fun k q => ?_, fun j k a b => ?_⟩, ⟨fun j a b => ?_, fun j a b => ?_⟩, ?_, m, s, ?_, ?_, m3⟩
  · obtain ⟨a, b, c, d, ⟨e1, e2, e3, e4⟩, f, g1, g2⟩ := hpp p2 q
    by_cases hq : p2 = p
    · subst hq
      refine ⟨a, b, c, i + 1, ⟨?_, ?_, ?_, x2⟩, ⟨f.1, f.2.1, f.2.2.1, f.2.2.2.1, f.2.2.2.2.1, by omega⟩, ?_, fun y => ?_⟩
      · rw [q_of, e _ (by omega) (by omega) (by omega) (by omega) (by omega)]; exact e1
      · rw [q_of, e _ (by omega) (by omega) (by omega) (by omega) (by omega)]; exact e2
      · rw [q_of, e _ (by omega) (by omega) (by omega) (by omega) (by omega)]; exact e3
      · rw [q_of, e _ (by omega) (by omega) (by omega) (by omega) (by omega)]; exact g1
      · exact x1
    · refine ⟨a, b, c, d, ⟨?_, ?_, ?_, ?_⟩, f, ?_, fun y => ?_⟩
      · rw [q_of, e _ (by omega) (by omega) (by omega) (by omega) (by omega)]; exact e1
      · rw [q_of, e _ (by omega) (by omega) (by omega) (by omega) (by omega)]; exact e2
      · rw [q_of, e _ (by omega) (by omega) (by omega) (by omega) (by omega)]; exact e3
      · rw [q_of, e _ (by omega) (by omega) (by omega) (by omega) (by omega)]; exact e4
      · rw [q_of, e _ (by omega) (by omega) (by omega) (by omega) (by omega)]; exact g1
      · have g3 := g2 y
        have hd : d - 1 ≠ i := fun z => by
          rw [z, f2] at g3
          exact absurd ((nI_eq (a := 0) (by decide) (by omega)).mp g3) (by omega)
        rw [q_its, e _ (by omega) (by omega) (by omega) (by omega) (by omega)]; exact g3
  · obtain ⟨k, d, l, ⟨e1, e2, e3⟩, f, g⟩ := hii i2 q
    by_cases hq : i2 = i
    · subst hq
      refine ⟨k, d, p + 1, ⟨?_, ?_, x1⟩, ⟨f.1, f.2.1, by omega⟩, fun y => x2⟩
      · rw [q_its, e _ (by omega) (by omega) (by omega) (by omega) (by omega)]; exact e1
      · rw [q_its, e _ (by omega) (by omega) (by omega) (by omega) (by omega)]; exact e2
    · refine ⟨k, d, l, ⟨?_, ?_, ?_⟩, f, fun y => ?_⟩
      · rw [q_its, e _ (by omega) (by omega) (by omega) (by omega) (by omega)]; exact e1
      · rw [q_its, e _ (by omega) (by omega) (by omega) (by omega) (by omega)]; exact e2
      · rw [q_its, e _ (by omega) (by omega) (by omega) (by omega) (by omega)]; exact e3
      · have g3 := g y
        have hd : l - 1 ≠ p := fun z => by
          rw [z, f4] at g3
          exact absurd ((nI_eq (a := 0) (by decide) (by omega)).mp g3) (by omega)
        rw [q_of, e _ (by omega) (by omega) (by omega) (by omega) (by omega)]; exact g3
  · by_cases hk : k = nl
    · subst hk
      refine ⟨i, hi, x3, ?_⟩
      rw [q_its, x1]
      exact fun z => absurd ((nI_eq (b := 0) (by omega) (by decide)).mp z) (by omega)
    · obtain ⟨i3, a, b, c⟩ := l1 k (by omega)
      have hd : i3 ≠ i := fun z => by rw [z] at c; exact c f2
      exact ⟨i3, a, by rw [e _ (by omega) (by omega) (by omega) (by omega) (by omega)]; exact b, by rw [q_its, e _ (by omega) (by omega) (by omega) (by omega) (by omega)]; exact c⟩
  · rw [e (136 + j) (by omega) (by omega) (by omega) (by omega) (by omega)]
    by_cases hk : k = nl
    · subst hk
      rw [x3]
      obtain ⟨i3, a3, b3, c3⟩ := l1 j a
      rw [b3]
      intro z
      rw [(nI_eq (by omega) (by omega)).mp z] at c3
      exact c3 f2
    · rw [e (136 + k) (by omega) (by omega) (by omega) (by omega) (by omega)]
      exact l2 j k a (by omega)
  · rw [e _ (by omega) (by omega) (by omega) (by omega) (by omega)]; exact z1 j a b
  · rw [e _ (by omega) (by omega) (by omega) (by omega) (by omega)]; exact z2 j a b
  · rw [e _ (by omega) (by omega) (by omega) (by omega) (by omega)]; exact h7
  · rw [e _ (by omega) (by omega) (by omega) (by omega) (by omega)]; exact m1
  · rw [e _ (by omega) (by omega) (by omega) (by omega) (by omega)]; exact m2
end Rows
