/-! Parts and pupils: the most parts that can be filled, told in two ways. Own work. -/
section Halls
/-- subsets of the four parts are numbers below 16 -/
def q_sub4 (a t : Nat) : Prop := a &&& t = a
theorem q_m_or : ∀ a, a < 16 → ∀ e, e < 16 → a ||| e < 16 ∧ a &&& e < 16 ∧ q_on (a ||| e) (a ||| e) + q_on (a &&& e) (a &&& e) = q_on a a + q_on e e := by decide +kernel
theorem q_m_sub : ∀ t, t < 16 → ∀ a, a < 16 → a &&& t = a → ∀ e, e < 16 → (a &&& e) &&& t = a &&& e ∧ (e &&& t = e → (a ||| e) &&& t = a ||| e) := by decide +kernel
theorem q_m_cov : ∀ d, d < 16 → ∀ a, a < 16 → ∀ e, e < 16 → (if d &&& (a ||| e) = 0 then 0 else 1) + (if d &&& (a &&& e) = 0 then 0 else 1) ≤ (if d &&& a = 0 then 0 else 1) + (if d &&& e = 0 then (0 : Nat) else 1) := by decide +kernel
theorem q_m_mon : ∀ d, d < 16 → ∀ e, e < 16 → ∀ a, a < 16 → a &&& e = a → (if d &&& a = 0 then 0 else 1) ≤ (if d &&& e = 0 then (0 : Nat) else 1) := by decide +kernel
theorem q_m_bit1 : ∀ t, t < 16 → ∀ k, k < 4 → (t ^^^ 2 ^ k) < 16 := by decide +kernel
theorem q_m_bit2 : ∀ t, t < 16 → ∀ k, k < 4 → t.testBit k = true → (t ^^^ 2 ^ k) ||| 2 ^ k = t := by decide +kernel
theorem q_m_bit3 : ∀ t, t < 16 → ∀ k, k < 4 → ∀ a, a < 16 → t.testBit k = true → a &&& (t ^^^ 2 ^ k) = a → a &&& t = a := by decide +kernel
theorem q_m_bit4 : ∀ t, t < 16 → ∀ k, k < 4 → ∀ a, a < 16 → t.testBit k = true → a &&& (t ^^^ 2 ^ k) = a → a.testBit k = false := by decide +kernel
theorem q_m_bit (t : Nat) (ht : t < 16) (k : Nat) (hk : k < 4) (h : t.testBit k = true) : (t ^^^ 2 ^ k) < 16 ∧ (t ^^^ 2 ^ k) ||| 2 ^ k = t ∧ ∀ a, a < 16 → a &&& (t ^^^ 2 ^ k) = a → a &&& t = a ∧ a.testBit k = false := ⟨q_m_bit1 t ht k hk, q_m_bit2 t ht k hk h, fun a ha hs => ⟨q_m_bit3 t ht k hk a ha h hs, q_m_bit4 t ht k hk a ha h hs⟩⟩
theorem q_m_meet : ∀ d, d < 16 → ∀ a, a < 16 → (∀ k, k < 4 → a.testBit k = true → d.testBit k = false) → d &&& a = 0 := by decide +kernel
theorem q_m_tb : ∀ t, t < 16 → ∀ a, a < 16 → a &&& t = a → ∀ k, k < 4 → t.testBit k = false → a.testBit k = false := by decide +kernel
theorem q_m_andtb (a e k : Nat) : (a &&& e).testBit k = (a.testBit k && e.testBit k) := Nat.testBit_and a e k
theorem q_m_add1 : ∀ k, k < 4 → ∀ s, s < 16 → ∀ a, a < 16 → a &&& (s ||| 2 ^ k) = a → a.testBit k = false → a &&& s = a := by decide +kernel
theorem q_m_add2 : ∀ k, k < 4 → ∀ s, s < 16 → ∀ a, a < 16 → a &&& (s ||| 2 ^ k) = a → a.testBit k = true → (a ^^^ 2 ^ k) &&& s = (a ^^^ 2 ^ k) := by decide +kernel
theorem q_m_add3 : ∀ k, k < 4 → ∀ a, a < 16 → a.testBit k = true → (a ^^^ 2 ^ k) &&& a = (a ^^^ 2 ^ k) := by decide +kernel
theorem q_m_add4 : ∀ k, k < 4 → ∀ a, a < 16 → a.testBit k = true → q_on a a = q_on (a ^^^ 2 ^ k) (a ^^^ 2 ^ k) + 1 := by decide +kernel
theorem q_m_add (k : Nat) (hk : k < 4) (s : Nat) (hs : s < 16) (a : Nat) (ha : a < 16) (h : a &&& (s ||| 2 ^ k) = a) : (a &&& s = a) ∨ (a.testBit k = true ∧ (a ^^^ 2 ^ k) < 16 ∧ (a ^^^ 2 ^ k) &&& s = (a ^^^ 2 ^ k) ∧ (a ^^^ 2 ^ k) &&& a = (a ^^^ 2 ^ k) ∧ q_on a a = q_on (a ^^^ 2 ^ k) (a ^^^ 2 ^ k) + 1) := by
  cases hb : a.testBit k with
  | false => exact Or.inl (q_m_add1 k hk s hs a ha h hb)
  | true => exact Or.inr ⟨rfl, q_m_bit1 a ha k hk, q_m_add2 k hk s hs a ha h hb, q_m_add3 k hk a ha hb, q_m_add4 k hk a ha hb⟩
theorem q_m_hit1 : ∀ d, d < 16 → ∀ k, k < 4 → ∀ a, a < 16 → (d.testBit k && (a.testBit k && decide (d &&& a = 0))) = false := by decide +kernel
theorem q_m_hit (d : Nat) (hd : d < 16) (k : Nat) (hk : k < 4) (h : d.testBit k = true) (a : Nat) (ha : a < 16) (h2 : a.testBit k = true) : ¬ d &&& a = 0 := fun z => by
  have := q_m_hit1 d hd k hk a ha
  rw [h, h2, decide_eq_true z] at this
  cases this
/-- sets that have pupils enough -/
def q_H (c : Nat → Nat) (t : Nat) : Prop := ∀ a, a < 16 → a &&& t = a → q_on a a ≤ c a
def q_Hc (c : Nat → Nat) : Prop := (∀ e, e < 16 → ∀ a, a < 16 → a &&& e = a → c a ≤ c e) ∧ ∀ a, a < 16 → ∀ e, e < 16 → c (a ||| e) + c (a &&& e) ≤ c a + c e
def q_hs (c : Nat → Nat) (d : Nat) : Nat → Nat := fun a => c a + if d &&& a = 0 then 0 else 1
theorem q_Hc_step {c : Nat → Nat} {d : Nat} (h : q_Hc c) (hd : d < 16) : q_Hc (q_hs c d) := by
  refine ⟨fun e he a ha s => ?_, fun a ha e he => ?_⟩
  · have h1 := h.1 e he a ha s
    have h2 := q_m_mon d hd e he a ha s
    unfold q_hs
    omega
  · have h1 := h.2 a ha e he
    have h2 := q_m_cov d hd a ha e he
    unfold q_hs
    omega
theorem q_H_meet {c : Nat → Nat} {d t : Nat} (hc : q_Hc c) (ht : t < 16) (h : q_H (q_hs c d) t) {a e : Nat} (ha : a < 16) (he : e < 16) (sa : a &&& t = a) (se : e &&& t = e) (na : c a < q_on a a) (ne : c e < q_on e e) : c (a &&& e) < q_on (a &&& e) (a &&& e) := by
  obtain ⟨o1, o2, o3⟩ := q_m_or a ha e he
  have su := (q_m_sub t ht a ha sa e he).2 se
  have h1 := h (a ||| e) o1 su
  have h2 := hc.2 a ha e he
  unfold q_hs at h1
  have : (if d &&& (a ||| e) = 0 then 0 else 1) ≤ 1 := by split <;> decide
  omega
theorem q_H_step {c : Nat → Nat} {d t : Nat} (hc : q_Hc c) (hd : d < 16) (ht : t < 16) : q_H (q_hs c d) t ↔ (q_H c t ∨ ∃ k, k < 4 ∧ d.testBit k = true ∧ ∃ s, s < 16 ∧ q_H c s ∧ s ||| 2 ^ k = t) := by
  constructor
  · intro h
    refine Classical.byContradiction fun n => ?_
    have n1 : ¬ q_H c t := fun z => n (Or.inl z)
    have pick : ∀ t2, ¬ q_H c t2 → ∃ a, a < 16 ∧ a &&& t2 = a ∧ c a < q_on a a := fun t2 z => by
      refine Classical.byContradiction fun y => z (fun a ha hs => Nat.not_lt.mp (fun w => y ⟨a, ha, hs, w⟩))
    obtain ⟨a0, a01, a02, a03⟩ := pick t n1
    have go : ∀ m, m ≤ 4 → ∃ a, a < 16 ∧ a &&& t = a ∧ c a < q_on a a ∧ ∀ k, k < m → d.testBit k = true → a.testBit k = false := by
      intro m
      induction m with
      | zero => intro _; exact ⟨a0, a01, a02, a03, fun k hk => absurd hk (Nat.not_lt_zero k)⟩
      | succ m ih =>
        intro hm
        obtain ⟨a, b1, b2, b3, b4⟩ := ih (by omega)
        cases hd2 : d.testBit m with
        | false =>
          refine ⟨a, b1, b2, b3, fun k hk hdk => ?_⟩
          by_cases hkm : k = m
          · subst hkm
            rw [hd2] at hdk
            cases hdk
          · exact b4 k (by omega) hdk
        | true =>
          cases ht2 : t.testBit m with
          | false =>
            refine ⟨a, b1, b2, b3, fun k hk hdk => ?_⟩
            by_cases hkm : k = m
            · subst hkm
              exact q_m_tb t ht a b1 b2 k (by omega) ht2
            · exact b4 k (by omega) hdk
          | true =>
            obtain ⟨x1, x2, x3⟩ := q_m_bit t ht m (by omega) ht2
            have n2 : ¬ q_H c (t ^^^ 2 ^ m) := fun z => n (Or.inr ⟨m, by omega, hd2, t ^^^ 2 ^ m, x1, z, x2⟩)
            obtain ⟨e, e1, e2, e3⟩ := pick _ n2
            obtain ⟨x4, x5⟩ := x3 e e1 e2
            obtain ⟨o1, o2, o3⟩ := q_m_or a b1 e e1
            refine ⟨a &&& e, o2, (q_m_sub t ht a b1 b2 e e1).1, q_H_meet hc ht h b1 e1 b2 x4 b3 e3, fun k hk hdk => ?_⟩
            rw [q_m_andtb]
            by_cases hkm : k = m
            · subst hkm
              rw [x5, Bool.and_false]
            · rw [b4 k (by omega) hdk, Bool.false_and]
    obtain ⟨a, b1, b2, b3, b4⟩ := go 4 (Nat.le_refl 4)
    have hz : d &&& a = 0 := q_m_meet d hd a b1 (fun k hk hak => by
      cases hdk : d.testBit k with
      | false => rfl
      | true => rw [b4 k hk hdk] at hak; cases hak)
    have := h a b1 b2
    unfold q_hs at this
    rw [if_pos hz] at this
    omega
  · rintro (h | ⟨k, hk, hdk, s, hs, h, rfl⟩) a ha sa
    · have := h a ha sa
      unfold q_hs
      omega
    · unfold q_hs
      rcases q_m_add k hk s hs a ha sa with y | ⟨y1, y2, y3, y4, y5⟩
      · have := h a ha y
        omega
      · have h1 := h _ y2 y3
        have h2 := hc.1 a ha _ y2 y4
        rw [if_neg (q_m_hit d hd k hk hdk a ha y1)]
        omega
theorem q_m_two : ∀ a, a < 16 → a &&& 3 < 4 ∧ (a &&& 12) / 4 < 4 ∧ a &&& 12 = 4 * ((a &&& 12) / 4) ∧ q_on a a = q_on (a &&& 3) (a &&& 3) + q_on ((a &&& 12) / 4) ((a &&& 12) / 4) := by decide +kernel
theorem q_m_two2 : ∀ x, x < 4 → ∀ y, y < 4 → (x ||| 4 * y) < 16 ∧ (x ||| 4 * y) &&& 3 = x ∧ (x ||| 4 * y) &&& 12 = 4 * y ∧ ∀ a, a < 16 → a &&& (x ||| 4 * y) = a → (a &&& 3) &&& x = a &&& 3 ∧ ((a &&& 12) / 4) &&& y = (a &&& 12) / 4 := by decide +kernel
theorem q_m_le4 : ∀ a, a < 16 → q_on a a ≤ 4 := by decide +kernel
/-- one half: a set with pupils enough, and one that shows that there is no greater -/
theorem q_half {c : Nat → Nat} (h0 : c 0 = 0) (h1 : c 1 ≤ c 3) (h2 : c 2 ≤ c 3) (h3 : c 3 ≤ c 1 + c 2) : ∃ x s, x < 4 ∧ s < 4 ∧ (∀ a, a < 4 → a &&& x = a → q_on a a ≤ c a) ∧ 2 + c s = q_on s s + q_on x x := by
  have e0 : q_on 0 0 = 0 := rfl
  have e1 : q_on 1 1 = 1 := rfl
  have e2 : q_on 2 2 = 1 := rfl
  have e3 : q_on 3 3 = 2 := rfl
  by_cases c1 : c 1 = 0
  · by_cases c2 : c 2 = 0
    · refine ⟨0, 3, by decide, by decide, fun a ha hs => ?_, by omega⟩
      rcases (show a = 0 ∨ a = 1 ∨ a = 2 ∨ a = 3 by omega) with rfl | rfl | rfl | rfl
      · omega
      · exact absurd hs (by decide)
      · exact absurd hs (by decide)
      · exact absurd hs (by decide)
    · refine ⟨2, 1, by decide, by decide, fun a ha hs => ?_, by omega⟩
      rcases (show a = 0 ∨ a = 1 ∨ a = 2 ∨ a = 3 by omega) with rfl | rfl | rfl | rfl
      · omega
      · exact absurd hs (by decide)
      · omega
      · exact absurd hs (by decide)
  · by_cases c2 : c 2 = 0
    · refine ⟨1, 2, by decide, by decide, fun a ha hs => ?_, by omega⟩
      rcases (show a = 0 ∨ a = 1 ∨ a = 2 ∨ a = 3 by omega) with rfl | rfl | rfl | rfl
      · omega
      · omega
      · exact absurd hs (by decide)
      · exact absurd hs (by decide)
    · by_cases c3 : c 3 = 1
      · refine ⟨1, 3, by decide, by decide, fun a ha hs => ?_, by omega⟩
        rcases (show a = 0 ∨ a = 1 ∨ a = 2 ∨ a = 3 by omega) with rfl | rfl | rfl | rfl
        · omega
        · omega
        · exact absurd hs (by decide)
        · exact absurd hs (by decide)
      · refine ⟨3, 0, by decide, by decide, fun a ha hs => ?_, by omega⟩
        rcases (show a = 0 ∨ a = 1 ∨ a = 2 ∨ a = 3 by omega) with rfl | rfl | rfl | rfl
        · omega
        · omega
        · omega
        · omega
/-- the greatest set with pupils enough is as large as the least count -/
theorem q_most_eq {c : Nat → Nat} (hc : q_Hc c) (h0 : c 0 = 0) (hs : ∀ a, a < 16 → c a = c (a &&& 3) + c (a &&& 12)) : ∃ t s, t < 16 ∧ s < 16 ∧ q_H c t ∧ q_on t t = 4 - q_on s s + c s ∧ ∀ t2, t2 < 16 → q_H c t2 → ∀ s2, s2 < 16 → q_on t2 t2 ≤ 4 - q_on s2 s2 + c s2 := by
  have m31 := hc.1 3 (by decide) 1 (by decide) (by decide)
  have m32 := hc.1 3 (by decide) 2 (by decide) (by decide)
  have s12 := hc.2 1 (by decide) 2 (by decide)
  have m124 := hc.1 12 (by decide) 4 (by decide) (by decide)
  have m128 := hc.1 12 (by decide) 8 (by decide) (by decide)
  have s48 := hc.2 4 (by decide) 8 (by decide)
  have q1 : (1 ||| 2 : Nat) = 3 := by decide
  have q2 : (4 ||| 8 : Nat) = 12 := by decide
  rw [q1] at s12
  rw [q2] at s48
  obtain ⟨x, a, hx, ha, x1, x2⟩ := q_half (c := c) h0 m31 m32 (by omega)
  obtain ⟨y, e, hy, he, y1, y2⟩ := q_half (c := fun z => c (4 * z)) h0 m124 m128 (show c 12 ≤ c 4 + c 8 by omega)
  obtain ⟨t1, t2, t3, t4⟩ := q_m_two2 x hx y hy
  obtain ⟨s1, s2, s3, -⟩ := q_m_two2 a ha e he
  have ot := q_m_two _ t1
  have os := q_m_two _ s1
  rw [t2, t3, Nat.mul_div_cancel_left y (by decide)] at ot
  rw [s2, s3, Nat.mul_div_cancel_left e (by decide)] at os
  have cs := hs _ s1
  rw [s2, s3] at cs
  have l4 := q_m_le4 _ s1
  refine ⟨x ||| 4 * y, a ||| 4 * e, t1, s1, fun z hz sz => ?_, ?_, fun u hu hH w hw => ?_⟩
  · obtain ⟨z1, z2, z3, z4⟩ := q_m_two z hz
    obtain ⟨z5, z6⟩ := t4 z hz sz
    have k1 := x1 _ z1 z5
    have k2 : _ ≤ c (4 * ((z &&& 12) / 4)) := y1 _ z2 z6
    have k3 := hs z hz
    rw [z3] at k3
    omega
  · have y2 : 2 + c (4 * e) = q_on e e + q_on y y := y2
    omega
  · obtain ⟨o1, o2, o3⟩ := q_m_or u hu w hw
    have l5 := q_m_le4 _ o1
    have h1 := hH (u &&& w) o2 (by rw [Nat.and_assoc, Nat.and_comm w u, ← Nat.and_assoc, Nat.and_self])
    have h2 := hc.1 w hw (u &&& w) o2 (by rw [Nat.and_assoc, Nat.and_self])
    have l6 := q_m_le4 _ hw
    omega
end Halls
