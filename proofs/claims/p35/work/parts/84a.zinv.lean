/-! More of what a row keeps: debts, dents since lent, settings, the fund by its sums, plays, loans counted. Own work. -/
section ZInv
variable {v v2 : qV} {n np ni nl : Nat}
theorem z_r1 (a b c : Int32) : a + b = a + c + (b - c) := by
  rw [Int32.add_assoc, Int32.sub_eq_add_neg, Int32.add_comm b, ← Int32.add_assoc c, ← Int32.sub_eq_add_neg c c, Int32.sub_self, Int32.zero_add]
theorem z_r2 (a b c : Int32) : a + b + c = a + c + b := by rw [Int32.add_assoc, Int32.add_comm b, ← Int32.add_assoc]
theorem z_r3 {a b c : Int32} (h : a = b - c) (x : Int32) : a - x = b - (c + x) := by rw [h, q_subadd]
theorem z_r4 {a b c d e x : Int32} (h : a = b + c - d - e) : a + x = b + x + c - d - e := by
  rw [h]; simp only [Int32.sub_eq_add_neg]; rw [z_r2 _ (-e), z_r2 _ (-d), z_r2 b c x]
theorem z_r5 {a b c d e x : Int32} (h : a = b + c - d - e) : a + x = b + (c + x) - d - e := by
  rw [h]; simp only [Int32.sub_eq_add_neg]; rw [z_r2 _ (-e), z_r2 _ (-d), Int32.add_assoc b]
theorem z_r6 {a b c d e x : Int32} (h : a = b + c - d - e) : a - x = b + c - (d + x) - e := by
  rw [h, q_subadd]; simp only [Int32.sub_eq_add_neg]; rw [z_r2 _ (-e)]
theorem z_r7 {a b c d e x : Int32} (h : a = b + c - d - e) : a - x = b + c - d - (e + x) := by rw [h, q_subadd]
/-- the sum of the first ones -/
def z_sm (f : Nat → Int32) : Nat → Int32
  | 0 => 0
  | k + 1 => z_sm f k + f k
theorem z_sm_cg {f g : Nat → Int32} : ∀ n, (∀ k, k < n → g k = f k) → z_sm g n = z_sm f n
  | 0, _ => rfl
  | k + 1, h => by
    show z_sm g k + g k = z_sm f k + f k
    rw [z_sm_cg k (fun j hj => h j (by omega)), h k (by omega)]
theorem z_sm_up {f g : Nat → Int32} {i : Nat} : ∀ n, i < n → (∀ k, k < n → k ≠ i → g k = f k) → z_sm g n = z_sm f n + (g i - f i)
  | 0, h, _ => absurd h (Nat.not_lt_zero i)
  | k + 1, h, e => by
    show z_sm g k + g k = z_sm f k + f k + (g i - f i)
    by_cases c : k = i
    · rw [← c, z_sm_cg k (fun j hj => e j (by omega) (by omega))]
      exact z_r1 _ _ _
    · rw [z_sm_up k (by omega) (fun j hj => e j (by omega)), e k (by omega) c]
      exact z_r2 _ _ _
/-- how many are lent -/
def z_ct (v : qV) : Nat → Nat
  | 0 => 0
  | k + 1 => z_ct v k + (if q_its v k 2 = 0 then 0 else 1)
theorem z_ct_cg : ∀ n, (∀ k, k < n → q_its v2 k 2 = q_its v k 2) → z_ct v2 n = z_ct v n
  | 0, _ => rfl
  | k + 1, h => by
    show z_ct v2 k + _ = z_ct v k + _
    rw [z_ct_cg k (fun j hj => h j (by omega)), h k (by omega)]
theorem z_ct_up {i : Nat} : ∀ n, i < n → (∀ k, k < n → k ≠ i → q_its v2 k 2 = q_its v k 2) → z_ct v2 n + (if q_its v i 2 = 0 then 0 else 1) = z_ct v n + (if q_its v2 i 2 = 0 then 0 else 1)
  | 0, h, _ => absurd h (Nat.not_lt_zero i)
  | k + 1, h, e => by
    show z_ct v2 k + (if q_its v2 k 2 = 0 then 0 else 1) + _ = z_ct v k + (if q_its v k 2 = 0 then 0 else 1) + _
    by_cases c : k = i
    · rw [← c, z_ct_cg k (fun j hj => e j (by omega) (by omega))]
      omega
    · have z := z_ct_up k (by omega) (fun j hj => e j (by omega))
      rw [e k (by omega) c]
      omega
theorem z_ct_le : ∀ n k, k ≤ n → z_ct v k ≤ z_ct v n
  | 0, k, h => by rw [Nat.le_zero.mp h]; exact Nat.le_refl _
  | n + 1, k, h => by
    by_cases c : k = n + 1
    · rw [c]; exact Nat.le_refl _
    · exact Nat.le_trans (z_ct_le n k (by omega)) (Nat.le_add_right _ _)
theorem z_ct_lt {i k : Nat} (h : i < k) (hi : q_its v i 2 ≠ 0) : z_ct v i < z_ct v k := by
  have : z_ct v (i + 1) = z_ct v i + 1 := by show z_ct v i + (if q_its v i 2 = 0 then 0 else 1) = _; rw [if_neg hi]
  have := z_ct_le (v := v) k (i + 1) h
  omega
/-- no more loans than lent ones -/
theorem z_ll_ct (hni : ni ≤ 10) (h : q_ll v ni nl) : nl ≤ z_ct v ni := by
  obtain ⟨l1, l2⟩ := h
  refine q_pig (z_ct v ni) nl (fun k => z_ct v (v (136 + k)).toNatClampNeg) (fun k hk => ?_) (fun j k a b => ?_)
  · obtain ⟨i, h1, h2, h3⟩ := l1 k hk
    show z_ct v (v (136 + k)).toNatClampNeg < _
    rw [h2, nI_clamp (by omega)]
    exact z_ct_lt h1 h3
  · obtain ⟨i, h1, h2, h3⟩ := l1 k b
    obtain ⟨i2, g1, g2, g3⟩ := l1 j (by omega)
    have hne := l2 j k a b
    show z_ct v (v (136 + j)).toNatClampNeg ≠ z_ct v (v (136 + k)).toNatClampNeg
    rw [h2, g2] at hne
    rw [h2, g2, nI_clamp (by omega), nI_clamp (by omega)]
    rcases Nat.lt_trichotomy i i2 with z | z | z
    · have := z_ct_lt z h3
      omega
    · exact absurd (by rw [z]) hne
    · have := z_ct_lt z g3
      omega
/-- what stays of the loans, when one is brought back: at most one less -/
theorem z_bk_ge (i : Nat) (u : qV) : ∀ k, ((∀ j, j < k → u (136 + j) ≠ nI i) → (q_bk i u k).2 = k) ∧ ((∀ a b, a < b → b < k → u (136 + a) ≠ u (136 + b)) → k ≤ (q_bk i u k).2 + 1)
  | 0 => ⟨fun _ => rfl, fun _ => Nat.zero_le _⟩
  | k + 1 => by
    obtain ⟨h1, h2⟩ := z_bk_ge i u k
    obtain ⟨g, -, -, g3⟩ := q_bk_at i u k
    have e := g3 k (Nat.le_refl _)
    rw [q_bk]
    show ((∀ j, j < k + 1 → u (136 + j) ≠ nI i) → cond (decide ((q_bk i u k).1 (136 + k) = nI i)) (q_bk i u k).2 ((q_bk i u k).2 + 1) = k + 1) ∧ ((∀ a b, a < b → b < k + 1 → u (136 + a) ≠ u (136 + b)) → k + 1 ≤ cond (decide ((q_bk i u k).1 (136 + k) = nI i)) (q_bk i u k).2 ((q_bk i u k).2 + 1) + 1)
    rw [e]
    by_cases c : u (136 + k) = nI i
    · rw [decide_eq_true c]
      refine ⟨fun z => absurd c (z k (Nat.lt_succ_self _)), fun z => ?_⟩
      have := h1 (fun j hj w => z j k hj (Nat.lt_succ_self _) (w.trans c.symm))
      show k + 1 ≤ (q_bk i u k).2 + 1
      omega
    · rw [decide_eq_false c]
      refine ⟨fun z => ?_, fun z => ?_⟩
      · show (q_bk i u k).2 + 1 = k + 1
        rw [h1 (fun j hj => z j (by omega))]
      · have := h2 (fun a b x y => z a b x (by omega))
        show k + 1 ≤ (q_bk i u k).2 + 1 + 1
        omega
/-- debts -/
def z_a (n : Nat) (v : qV) (np : Nat) : Prop := ∀ p, p < np → ∃ d, q_of v p 3 = nI d ∧ d ≤ 450 * n
/-- dents, and those since it is lent -/
def z_b1 (v : qV) (i : Nat) : Prop := ∃ d c l, (q_its v i 1 = nI d ∧ q_its v i 4 = nI c ∧ q_its v i 2 = nI l) ∧ c ≤ d ∧ d ≤ 9 ∧ l ≤ 10 ∧ (l = 0 → c = 0)
def z_b (v : qV) (ni : Nat) : Prop := ∀ i, i < ni → z_b1 v i
def z_c (v : qV) : Prop := ∃ a c, v 13 = nI a ∧ a ≤ 50 ∧ v 15 = nI c ∧ c ≤ 99
def z_d (v : qV) : Prop := v 8 = v 9 + v 10 - v 11 - v 12
def z_e (v : qV) (np : Nat) : Prop := z_sm (fun p => q_of v p 6) np = 4 * v 6 - v 7
def z_f (v : qV) (ni : Nat) : Prop := z_sm (fun i => q_its v i 3) ni = 4 * v 6 - v 7
def z_ok (n : Nat) (v : qV) (np ni nl : Nat) : Prop := z_a n v np ∧ z_b v ni ∧ z_c v ∧ z_d v ∧ z_e v np ∧ z_f v ni ∧ z_ct v ni = nl
theorem z_a.mono {m : Nat} (h : z_a n v np) (hm : n ≤ m) : z_a m v np := fun p hp => (h p hp).imp fun d z => ⟨z.1, by omega⟩
theorem z_a.cg (h : z_a n v np) (e : ∀ p, p < np → q_of v2 p 3 = q_of v p 3) : z_a n v2 np := fun p hp => by rw [e p hp]; exact h p hp
theorem z_b1.cg {i : Nat} (h : z_b1 v i) (e1 : q_its v2 i 1 = q_its v i 1) (e2 : q_its v2 i 2 = q_its v i 2) (e4 : q_its v2 i 4 = q_its v i 4) : z_b1 v2 i := by
  unfold z_b1; rw [e1, e2, e4]; exact h
theorem z_b.cg (h : z_b v ni) (e : ∀ i, i < ni → q_its v2 i 1 = q_its v i 1 ∧ q_its v2 i 2 = q_its v i 2 ∧ q_its v2 i 4 = q_its v i 4) : z_b v2 ni := fun i hi => (h i hi).cg (e i hi).1 (e i hi).2.1 (e i hi).2.2
theorem z_c.cg (h : z_c v) (e : v2 13 = v 13) (e2 : v2 15 = v 15) : z_c v2 := by unfold z_c; rw [e, e2]; exact h
theorem z_d.cg (h : z_d v) (e : ∀ j, 8 ≤ j → j < 13 → v2 j = v j) : z_d v2 := by
  unfold z_d
  rw [e 8 (by decide) (by decide), e 9 (by decide) (by decide), e 10 (by decide) (by decide), e 11 (by decide) (by decide), e 12 (by decide) (by decide)]
  exact h
theorem z_e.cg (h : z_e v np) (e : ∀ p, p < np → q_of v2 p 6 = q_of v p 6) (e6 : v2 6 = v 6) (e7 : v2 7 = v 7) : z_e v2 np := by
  unfold z_e
  rw [e6, e7, z_sm_cg (f := fun p => q_of v p 6) np e]
  exact h
theorem z_f.cg (h : z_f v ni) (e : ∀ i, i < ni → q_its v2 i 3 = q_its v i 3) (e6 : v2 6 = v 6) (e7 : v2 7 = v 7) : z_f v2 ni := by
  unfold z_f
  rw [e6, e7, z_sm_cg (f := fun i => q_its v i 3) ni e]
  exact h
theorem z_ok.mono {m : Nat} (h : z_ok n v np ni nl) (hm : n ≤ m) : z_ok m v np ni nl := ⟨h.1.mono hm, h.2⟩
end ZInv
