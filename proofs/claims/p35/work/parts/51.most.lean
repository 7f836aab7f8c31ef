/-! What walks come to: the most parts. Own work. -/
section Mosts
variable {S S1 S2 : eM} {post : eQ} {v v2 : qV} {B b np ni nl : Nat}
theorem q_oa (a c d : Int32) : (a ||| c) &&& d = (a &&& d) ||| (c &&& d) :=
  Int32.toBitVec_inj.1 (show (a.toBitVec ||| c.toBitVec) &&& d.toBitVec = (a.toBitVec &&& d.toBitVec) ||| (c.toBitVec &&& d.toBitVec) from BitVec.eq_of_getLsbD_eq (fun i hi => by simp [Bool.and_or_distrib_right]))
def q_bt (x : Int32) (t : Nat) : Bool := !decide (x >>> (nI t &&& 31) &&& 1 = 0)
theorem q_bt_or (x y : Int32) (t : Nat) : q_bt (x ||| y) t = (q_bt x t || q_bt y t) := by
  unfold q_bt
  rw [Int32.shiftRight_or, q_oa]
  generalize x >>> (nI t &&& 31) &&& 1 = a
  generalize y >>> (nI t &&& 31) &&& 1 = e
  by_cases h1 : a = 0
  · by_cases h2 : e = 0
    · rw [decide_eq_true h1, decide_eq_true h2, decide_eq_true (Int32.or_eq_zero_iff.mpr ⟨h1, h2⟩)]; rfl
    · rw [decide_eq_false h2, decide_eq_false (fun z => h2 (Int32.or_eq_zero_iff.mp z).2), Bool.not_false, Bool.or_true]
  · rw [decide_eq_false h1, decide_eq_false (fun z => h1 (Int32.or_eq_zero_iff.mp z).1), Bool.not_false, Bool.true_or]
theorem q_bt_sh : ∀ s, s < 16 → ∀ t, t < 16 → q_bt ((1 : Int32) <<< (nI s &&& 31)) t = decide (s = t) := by decide +kernel
theorem q_bt_0 : ∀ t, t < 16 → q_bt 0 t = false := by decide +kernel
theorem q_bt_1 : ∀ t, t < 16 → q_bt 1 t = decide (t = 0) := by decide +kernel
theorem q_2k : ∀ k, k < 4 → 2 ^ k < 16 := by decide
def q_wp (x : Int32) (k : Nat) : Nat → Int32
  | 0 => 0
  | s + 1 => cond (q_bt x s) (q_wp x k s ||| (1 : Int32) <<< (nI (s ||| 2 ^ k) &&& 31)) (q_wp x k s)
theorem q_wp_bt {x : Int32} {k : Nat} (hk : k < 4) : ∀ n, n ≤ 16 → ∀ t, t < 16 → (q_bt (q_wp x k n) t = true ↔ ∃ s, s < n ∧ q_bt x s = true ∧ s ||| 2 ^ k = t)
  | 0, _, t, ht => ⟨fun h => (by rw [show q_wp x k 0 = 0 from rfl, q_bt_0 t ht] at h; cases h), fun ⟨s, h, _⟩ => absurd h (Nat.not_lt_zero s)⟩
  | n + 1, hn, t, ht => by
    have ih := q_wp_bt (x := x) hk n (by omega) t ht
    rw [q_wp]
    cases hb : q_bt x n with
    | false =>
      rw [cond_false, ih]
      constructor
      · rintro ⟨s, a, c, d⟩
        exact ⟨s, by omega, c, d⟩
      · rintro ⟨s, a, c, d⟩
        by_cases hs : s = n
        · subst hs
          rw [hb] at c
          cases c
        · exact ⟨s, by omega, c, d⟩
    | true =>
      rw [cond_true, q_bt_or, Bool.or_eq_true, ih, q_bt_sh _ (q_m_or n (by omega) (2 ^ k) (q_2k k hk)).1 t ht, decide_eq_true_eq]
      constructor
      · rintro (⟨s, a, c, d⟩ | h)
        · exact ⟨s, by omega, c, d⟩
        · exact ⟨n, by omega, hb, h⟩
      · rintro ⟨s, a, c, d⟩
        by_cases hs : s = n
        · subst hs
          exact Or.inr d
        · exact Or.inl ⟨s, by omega, c, d⟩
theorem q_X4_withPart {x : Int32} {k : Nat} (hk : k < 4) (h : post (some (aI (q_wp x k 16))) S) : w_X4_withPart [aI x, aI (nI k)] S post := by
  have loop : ∀ d s, s + d = 16 → e_Run tb_X4_withPart post e_no 4 [some (aI x), some (aI (nI k)), some (aI (q_wp x k s)), some (aI (nI s))] [] S 0 0 := by
    intro d
    induction d with
    | zero =>
      intro s hs
      obtain rfl : s = 16 := by omega
      refine e_walk (stops := []) 20 ?_
      exact And.intro (fun _ => h) (fun c => absurd (by decide) c)
    | succ d ih =>
      intro s hs
      have ih := ih (s + 1) (by omega)
      rw [q_wp] at ih
      refine e_walk (stops := [18, 4]) 20 ?_
      refine And.intro (fun c => absurd c (nI_ge (a := s) (b := 16) (by omega) (by decide))) (fun _ => ?_)
      refine And.intro (fun c => ?_) (fun c => ?_)
      · have hb : q_bt x s = false := by unfold q_bt; rw [decide_eq_true (show x >>> (nI s &&& 31) &&& 1 = 0 from c)]; rfl
        rw [hb] at ih
        show e_Run tb_X4_withPart post e_no 4 [some (aI x), some (aI (nI k)), some (aI (q_wp x k s)), some (aI (nI s + 1))] [] S 0 0
        rw [nI_1]
        exact ih
      · have hb : q_bt x s = true := by unfold q_bt; rw [decide_eq_false (show ¬ x >>> (nI s &&& 31) &&& 1 = 0 from c)]; rfl
        rw [hb] at ih
        refine e_walk (stops := [25]) 20 ?_
        show e_Run tb_X4_withPart post e_no 25 [some (aI x), some (aI (nI k)), some (aI (q_wp x k s)), some (aI (nI s))] [aI (nI s ||| (1 : Int32) <<< (nI k &&& 31)), aI 1, aI (q_wp x k s)] S 0 0
        rw [q_bit (by omega), q_or]
        refine e_walk (stops := [4]) 20 ?_
        show e_Run tb_X4_withPart post e_no 4 [some (aI x), some (aI (nI k)), some (aI (q_wp x k s ||| (1 : Int32) <<< (nI (s ||| 2 ^ k) &&& 31))), some (aI (nI s + 1))] [] S 0 0
        rw [nI_1]
        exact ih
  refine e_walk (stops := [4]) 20 ?_
  exact loop 16 0 rfl
/-- the sets that one more pupil, and that the first n pupils can fill -/
def q_rp (v : qV) (p m : Nat) (x : Int32) : Nat → Int32
  | 0 => x
  | k + 1 => cond (q_could v p m k) (q_rp v p m x k ||| q_wp x k 16) (q_rp v p m x k)
def q_rch (v : qV) (m : Nat) : Nat → Int32
  | 0 => 1
  | p + 1 => q_rp v p m (q_rch v m p) 4
def q_ab4 (c0 c1 c2 c3 : Bool) : Nat := cond c0 1 0 + cond c1 2 0 + cond c2 4 0 + cond c3 8 0
def q_ab (v : qV) (p m : Nat) : Nat := q_ab4 (q_could v p m 0) (q_could v p m 1) (q_could v p m 2) (q_could v p m 3)
theorem q_ab4_all : ∀ c0 c1 c2 c3 : Bool, q_ab4 c0 c1 c2 c3 < 16 ∧ (q_ab4 c0 c1 c2 c3).testBit 0 = c0 ∧ (q_ab4 c0 c1 c2 c3).testBit 1 = c1 ∧ (q_ab4 c0 c1 c2 c3).testBit 2 = c2 ∧ (q_ab4 c0 c1 c2 c3).testBit 3 = c3 := by decide +kernel
theorem q_ab_tb (v : qV) (p m : Nat) {k : Nat} (hk : k < 4) : (q_ab v p m).testBit k = q_could v p m k := by
  obtain ⟨h0, h1, h2, h3, h4⟩ := q_ab4_all (q_could v p m 0) (q_could v p m 1) (q_could v p m 2) (q_could v p m 3)
  rcases (show k = 0 ∨ k = 1 ∨ k = 2 ∨ k = 3 by omega) with rfl | rfl | rfl | rfl <;> assumption
theorem q_ab_lt (v : qV) (p m : Nat) : q_ab v p m < 16 := (q_ab4_all _ _ _ _).1
def q_ct (v : qV) (m : Nat) : Nat → Nat → Nat
  | 0 => fun _ => 0
  | n + 1 => q_hs (q_ct v m n) (q_ab v n m)
theorem q_ct_c (v : qV) (m : Nat) : ∀ n, q_Hc (q_ct v m n)
  | 0 => ⟨fun _ _ _ _ _ => Nat.le_refl _, fun _ _ _ _ => Nat.le_refl _⟩
  | n + 1 => q_Hc_step (q_ct_c v m n) (q_ab_lt v n m)
theorem q_ct_0 (v : qV) (m : Nat) : ∀ n, q_ct v m n 0 = 0
  | 0 => rfl
  | n + 1 => by
    show q_ct v m n 0 + (if q_ab v n m &&& 0 = 0 then 0 else 1) = 0
    rw [q_ct_0 v m n, Nat.and_zero, if_pos rfl]
theorem q_m_split : ∀ d, d < 16 → d &&& 3 = 0 ∨ d &&& 12 = 0 → ∀ a, a < 16 → (if d &&& a = 0 then 0 else 1) = (if d &&& (a &&& 3) = 0 then 0 else 1) + (if d &&& (a &&& 12) = 0 then (0 : Nat) else 1) := by decide +kernel
theorem q_ab4_split : ∀ c0 c1 c2 c3 : Bool, ((c0 || c1) && (c2 || c3)) = false → q_ab4 c0 c1 c2 c3 &&& 3 = 0 ∨ q_ab4 c0 c1 c2 c3 &&& 12 = 0 := by decide +kernel
theorem q_ab_split (v : qV) (p m : Nat) : q_ab v p m &&& 3 = 0 ∨ q_ab v p m &&& 12 = 0 := by
  refine q_ab4_split _ _ _ _ ?_
  have k0 : q_kf m 0 = m % 4 := rfl
  have k1 : q_kf m 1 = m % 4 := rfl
  have k2 : q_kf m 2 = (m + 1) % 4 := rfl
  have k3 : q_kf m 3 = (m + 1) % 4 := rfl
  have key : ∀ a e, (q_kf m a = m % 4) → (q_kf m e = (m + 1) % 4) → q_could v p m a = true → q_could v p m e = true → False := fun a e ha he h1 h2 => by
    have g1 := (q_could_all h1).2.1
    have g2 := (q_could_all h2).2.1
    rw [g1, ha, he] at g2
    have := (nI_eq (by omega) (by omega)).mp g2
    omega
  cases h0 : q_could v p m 0 with
  | true =>
    cases h2 : q_could v p m 2 with
    | true => exact absurd (key 0 2 k0 k2 h0 h2) (fun z => z)
    | false =>
      cases h3 : q_could v p m 3 with
      | true => exact absurd (key 0 3 k0 k3 h0 h3) (fun z => z)
      | false => rw [Bool.or_self, Bool.and_false]
  | false =>
    cases h1 : q_could v p m 1 with
    | true =>
      cases h2 : q_could v p m 2 with
      | true => exact absurd (key 1 2 k1 k2 h1 h2) (fun z => z)
      | false =>
        cases h3 : q_could v p m 3 with
        | true => exact absurd (key 1 3 k1 k3 h1 h3) (fun z => z)
        | false => rw [Bool.or_self, Bool.and_false]
    | false => rw [Bool.or_self, Bool.false_and]
theorem q_ct_s (v : qV) (m : Nat) : ∀ n a, a < 16 → q_ct v m n a = q_ct v m n (a &&& 3) + q_ct v m n (a &&& 12)
  | 0, _, _ => rfl
  | n + 1, a, ha => by
    show q_ct v m n a + (if q_ab v n m &&& a = 0 then 0 else 1) = (q_ct v m n (a &&& 3) + if q_ab v n m &&& (a &&& 3) = 0 then 0 else 1) + (q_ct v m n (a &&& 12) + if q_ab v n m &&& (a &&& 12) = 0 then 0 else 1)
    rw [q_ct_s v m n a ha, q_m_split _ (q_ab_lt v n m) (q_ab_split v n m) a ha]
    omega
theorem q_rp_bt {v : qV} {p m : Nat} {x : Int32} : ∀ j, j ≤ 4 → ∀ t, t < 16 → (q_bt (q_rp v p m x j) t = true ↔ (q_bt x t = true ∨ ∃ k, k < j ∧ q_could v p m k = true ∧ ∃ s, s < 16 ∧ q_bt x s = true ∧ s ||| 2 ^ k = t))
  | 0, _, t, ht => ⟨fun h => Or.inl h, fun h => h.elim id (fun ⟨k, hk, _⟩ => absurd hk (Nat.not_lt_zero k))⟩
  | j + 1, hj, t, ht => by
    have ih := q_rp_bt (v := v) (p := p) (m := m) (x := x) j (by omega) t ht
    rw [q_rp]
    cases hc : q_could v p m j with
    | false =>
      rw [cond_false, ih]
      constructor
      · rintro (h | ⟨k, a, c⟩)
        · exact Or.inl h
        · exact Or.inr ⟨k, by omega, c⟩
      · rintro (h | ⟨k, a, c⟩)
        · exact Or.inl h
        · by_cases hk : k = j
          · subst hk
            rw [hc] at c
            cases c.1
          · exact Or.inr ⟨k, by omega, c⟩
    | true =>
      rw [cond_true, q_bt_or, Bool.or_eq_true, ih, q_wp_bt (by omega) 16 (Nat.le_refl _) t ht]
      constructor
      · rintro ((h | ⟨k, a, c⟩) | h)
        · exact Or.inl h
        · exact Or.inr ⟨k, by omega, c⟩
        · exact Or.inr ⟨j, by omega, hc, h⟩
      · rintro (h | ⟨k, a, c, d⟩)
        · exact Or.inl (Or.inl h)
        · by_cases hk : k = j
          · subst hk
            exact Or.inr d
          · exact Or.inl (Or.inr ⟨k, by omega, c, d⟩)
theorem q_m_z : ∀ t, t < 16 → q_on t t ≤ 0 → t = 0 := by decide +kernel
theorem q_rch_H (v : qV) (m : Nat) : ∀ n t, t < 16 → (q_bt (q_rch v m n) t = true ↔ q_H (q_ct v m n) t)
  | 0, t, ht => by
    rw [show q_rch v m 0 = 1 from rfl, q_bt_1 t ht, decide_eq_true_eq]
    constructor
    · rintro rfl a ha hs
      rw [Nat.and_zero] at hs
      subst hs
      exact Nat.le_refl _
    · intro h
      exact q_m_z t ht (h t ht (Nat.and_self t))
  | n + 1, t, ht => by
    show q_bt (q_rp v n m (q_rch v m n) 4) t = true ↔ q_H (q_hs (q_ct v m n) (q_ab v n m)) t
    rw [q_rp_bt 4 (Nat.le_refl _) t ht, q_H_step (q_ct_c v m n) (q_ab_lt v n m) ht, q_rch_H v m n t ht]
    constructor
    · rintro (h | ⟨k, a, c, s, d, e, f⟩)
      · exact Or.inl h
      · exact Or.inr ⟨k, a, by rw [q_ab_tb v n m a]; exact c, s, d, (q_rch_H v m n s d).mp e, f⟩
    · rintro (h | ⟨k, a, c, s, d, e, f⟩)
      · exact Or.inl h
      · exact Or.inr ⟨k, a, by rw [q_ab_tb v n m a] at c; exact c, s, d, (q_rch_H v m n s d).mpr e, f⟩
/-- the reference's count of players -/
def q_pn (a : Nat) : Nat → Nat
  | 0 => 0
  | i + 1 => q_pn a i + cond (a.testBit i) 1 0
theorem q_on_pn : ∀ a, a < 1024 → q_on a a = q_pn a 10 := by decide +kernel
theorem q_ply_tb (v : qV) (m k i : Nat) : ∀ n, (q_ply v m k n).testBit i = (decide (i < n) && q_could v i m k)
  | 0 => by rw [q_ply, Nat.zero_testBit, decide_eq_false (Nat.not_lt_zero i), Bool.false_and]
  | n + 1 => by
    rw [q_ply, Nat.testBit_or, q_ply_tb v m k i n]
    by_cases hi : i = n
    · subst hi
      rw [decide_eq_false (Nat.lt_irrefl i), decide_eq_true (Nat.lt_succ_self i), Bool.false_and, Bool.false_or, Bool.true_and]
      cases q_could v i m k with
      | true => rw [cond_true, Nat.testBit_two_pow_self]
      | false => rw [cond_false, Nat.zero_testBit]
    · have e : (cond (q_could v n m k) (2 ^ n) 0).testBit i = false := by
        cases q_could v n m k with
        | true => rw [cond_true, Nat.testBit_two_pow]; exact decide_eq_false (fun z => hi z.symm)
        | false => rw [cond_false, Nat.zero_testBit]
      rw [e, Bool.or_false, show decide (i < n) = decide (i < n + 1) from decide_eq_decide.mpr (by omega)]
theorem q_ab4_t : ∀ t, t < 16 → ∀ c0 c1 c2 c3 : Bool, (t.testBit 0 && c0 || t.testBit 1 && c1 || t.testBit 2 && c2 || t.testBit 3 && c3) = !decide (q_ab4 c0 c1 c2 c3 &&& t = 0) := by decide +kernel
theorem q_pls_tb (v : qV) (m np t i : Nat) (ht : t < 16) : (q_pls v m np t 4).testBit i = (decide (i < np) && !decide (q_ab v i m &&& t = 0)) := by
  have one : ∀ k, (cond (t.testBit k) (q_ply v m k np) 0).testBit i = (t.testBit k && (decide (i < np) && q_could v i m k)) := fun k => by
    cases t.testBit k with
    | true => rw [cond_true, q_ply_tb, Bool.true_and]
    | false => rw [cond_false, Nat.zero_testBit, Bool.false_and]
  unfold q_ab
  rw [← q_ab4_t t ht]
  show ((((0 ||| cond (t.testBit 0) (q_ply v m 0 np) 0) ||| cond (t.testBit 1) (q_ply v m 1 np) 0) ||| cond (t.testBit 2) (q_ply v m 2 np) 0) ||| cond (t.testBit 3) (q_ply v m 3 np) 0).testBit i = _
  rw [Nat.testBit_or, Nat.testBit_or, Nat.testBit_or, Nat.testBit_or, one, one, one, one, Nat.zero_testBit, Bool.false_or]
  cases decide (i < np) with
  | true => simp only [Bool.true_and]
  | false => simp only [Bool.false_and, Bool.and_false, Bool.or_false]
theorem q_pn_ct (v : qV) (m np t : Nat) (ht : t < 16) (hnp : np ≤ 10) : ∀ j, q_pn (q_pls v m np t 4) j = q_ct v m (min j np) t
  | 0 => by rw [Nat.zero_min]; rfl
  | j + 1 => by
    rw [q_pn, q_pn_ct v m np t ht hnp j, q_pls_tb v m np t j ht]
    by_cases hj : j < np
    · rw [decide_eq_true hj, Bool.true_and, show min (j + 1) np = min j np + 1 by omega, show min j np = j by omega]
      show q_ct v m j t + cond (!decide (q_ab v j m &&& t = 0)) 1 0 = q_ct v m j t + (if q_ab v j m &&& t = 0 then 0 else 1)
      by_cases z : q_ab v j m &&& t = 0
      · rw [decide_eq_true z, if_pos z]; rfl
      · rw [decide_eq_false z, if_neg z]; rfl
    · rw [decide_eq_false hj, Bool.false_and, show min (j + 1) np = min j np by omega]; rfl
theorem q_mn_eq {m t : Nat} (hnp : np ≤ 10) (ht : t < 16) : q_mn v m np t = nI (4 - q_on t t + q_ct v m np t) := by
  unfold q_mn
  rw [q_on_pn _ (q_pls_lt hnp 4), q_pn_ct v m np t ht hnp 10, show min 10 np = np by omega, show (4 : Int32) - nI (q_on t t) = nI (4 - q_on t t) from q_sub (a := 4) (q_m_le4 t ht), nI_add]
theorem q_ct_le (v : qV) (m : Nat) : ∀ n t, q_ct v m n t ≤ n
  | 0, _ => Nat.le_refl _
  | n + 1, t => by
    have := q_ct_le v m n t
    show q_ct v m n t + (if q_ab v n m &&& t = 0 then 0 else 1) ≤ n + 1
    split <;> omega
theorem q_mos_all {m : Nat} (hnp : np ≤ 10) : ∀ n, n ≤ 16 → ∃ u, u ≤ 4 ∧ q_mos v m np n = nI u ∧ (∀ t, t < n → u ≤ 4 - q_on t t + q_ct v m np t) ∧ (u = 4 ∨ ∃ t, t < n ∧ u = 4 - q_on t t + q_ct v m np t)
  | 0, _ => ⟨4, Nat.le_refl _, rfl, fun t h => absurd h (Nat.not_lt_zero t), Or.inl rfl⟩
  | n + 1, hn => by
    obtain ⟨u, u1, u2, u3, u4⟩ := q_mos_all (m := m) hnp n (by omega)
    have hc := q_ct_le v m np n
    rw [q_mos, q_mn_eq hnp (show n < 16 by omega), u2]
    by_cases z : 4 - q_on n n + q_ct v m np n < u
    · rw [if_pos (nI_lt z (by omega))]
      refine ⟨_, by omega, rfl, fun t ht => ?_, Or.inr ⟨n, by omega, rfl⟩⟩
      by_cases htn : t = n
      · subst htn
        exact Nat.le_refl _
      · have := u3 t (by omega)
        omega
    · rw [if_neg (fun y => z ((nI_ltI (by omega) (by omega)).mp y))]
      refine ⟨u, u1, rfl, fun t ht => ?_, ?_⟩
      · by_cases htn : t = n
        · subst htn
          omega
        · exact u3 t (by omega)
      · rcases u4 with y | ⟨t, y1, y2⟩
        · exact Or.inl y
        · exact Or.inr ⟨t, by omega, y2⟩
/-- the greatest of the sets that can be filled -/
def q_ms (x : Int32) : Nat → Int32
  | 0 => 0
  | s + 1 => cond (q_bt x s) (if q_ms x s < nI (q_on s s) then nI (q_on s s) else q_ms x s) (q_ms x s)
theorem q_ms_all (x : Int32) : ∀ n, n ≤ 16 → ∃ u, u ≤ 4 ∧ q_ms x n = nI u ∧ (∀ t, t < n → q_bt x t = true → q_on t t ≤ u) ∧ (u = 0 ∨ ∃ t, t < n ∧ q_bt x t = true ∧ q_on t t = u)
  | 0, _ => ⟨0, by decide, rfl, fun t h => absurd h (Nat.not_lt_zero t), Or.inl rfl⟩
  | n + 1, hn => by
    obtain ⟨u, u1, u2, u3, u4⟩ := q_ms_all x n (by omega)
    have hc := q_m_le4 n (by omega)
    rw [q_ms, u2]
    cases hb : q_bt x n with
    | false =>
      refine ⟨u, u1, rfl, fun t ht hbt => ?_, ?_⟩
      · by_cases htn : t = n
        · subst htn
          rw [hb] at hbt
          cases hbt
        · exact u3 t (by omega) hbt
      · rcases u4 with y | ⟨t, y1, y2⟩
        · exact Or.inl y
        · exact Or.inr ⟨t, by omega, y2⟩
    | true =>
      rw [cond_true]
      by_cases z : u < q_on n n
      · rw [if_pos (nI_lt z (by omega))]
        refine ⟨_, hc, rfl, fun t ht hbt => ?_, Or.inr ⟨n, by omega, hb, rfl⟩⟩
        by_cases htn : t = n
        · subst htn
          exact Nat.le_refl _
        · have := u3 t (by omega) hbt
          omega
      · rw [if_neg (fun y => z ((nI_ltI (by omega) (by omega)).mp y))]
        refine ⟨u, u1, rfl, fun t ht hbt => ?_, ?_⟩
        · by_cases htn : t = n
          · subst htn
            omega
          · exact u3 t (by omega) hbt
        · rcases u4 with y | ⟨t, y1, y2⟩
          · exact Or.inl y
          · exact Or.inr ⟨t, by omega, y2⟩
theorem q_ms_mos {m : Nat} (hnp : np ≤ 10) : q_ms (q_rch v m np) 16 = q_mos v m np 16 := by
  obtain ⟨u, u1, u2, u3, u4⟩ := q_ms_all (q_rch v m np) 16 (Nat.le_refl _)
  obtain ⟨w, w1, w2, w3, w4⟩ := q_mos_all (v := v) (m := m) hnp 16 (Nat.le_refl _)
  obtain ⟨t, s, t1, s1, t2, ts, mx⟩ := q_most_eq (q_ct_c v m np) (q_ct_0 v m np) (q_ct_s v m np)
  have a1 : q_on t t ≤ u := u3 t t1 ((q_rch_H v m np t t1).mpr t2)
  have a2 : w ≤ 4 - q_on s s + q_ct v m np s := w3 s s1
  have a3 : u ≤ w := by
    rcases u4 with y | ⟨t3, y1, y2, y3⟩
    · omega
    · have h3 := (q_rch_H v m np t3 y1).mp y2
      rcases w4 with z | ⟨s3, z1, z2⟩
      · omega
      · have := mx t3 y1 h3 s3 z1
        omega
  rw [u2, w2, show u = w by omega]
end Mosts
