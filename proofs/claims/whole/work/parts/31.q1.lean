/-! What walks come to, 1: ground. Own work. -/
theorem e_ln14 (x : Nat) : e_ln 14 x ≤ 876 := by
  rcases x with _ | _ | _ | _ | _ | x
  · decide
  · decide
  · decide
  · decide
  · decide
  · exact (by decide : 4 ≤ 876)
theorem q_X5_copy {S : eM} {post : eQ} {x y f t : Nat} (hx : f + 146 ≤ e_ln 14 x) (hy : t + 146 ≤ e_ln 14 y) (hxy : x ≠ y) (hf : f ≤ 1000) (ht : t ≤ 1000) (hp : ∀ S2 : eM, (∀ k i, ¬ (k = 14 ∧ i = y) → mI S2 k i = mI S k i) → mR S2 = mR S → mL S2 = mL S → (∀ j, mI S2 14 y j = if t ≤ j ∧ j < t + 146 then mI S 14 x (f + (j - t)) else mI S 14 y j) → post none S2) : w_X5_copy [aR 14 x, aI (nI f), aR 14 y, aI (nI t)] S post := by
  have key : ∀ n k : Nat, k + n = 146 → ∀ S1 : eM, (∀ k i, ¬ (k = 14 ∧ i = y) → mI S1 k i = mI S k i) → mR S1 = mR S → mL S1 = mL S → (∀ j, mI S1 14 y j = if t ≤ j ∧ j < t + k then mI S 14 x (f + (j - t)) else mI S 14 y j) → e_Run tb_X5_copy post e_no 3 [some (aR 14 x), some (aI (nI f)), some (aR 14 y), some (aI (nI t)), some (aI (nI k))] [] S1 0 0 := by
    intro n
    induction n with
    | zero =>
      intro k hk S1 h1 h2 h3 h4
      obtain rfl : k = 146 := by omega
      refine e_walk (stops := [3]) 20 ?_
      refine And.intro (fun c => ?_) (fun c => absurd (show (146 : Int32) ≤ nI 146 by decide) c)
      exact hp S1 h1 h2 h3 h4
    | succ n ih =>
      intro k hk S1 h1 h2 h3 h4
      refine e_walk (stops := [3]) 20 ?_
      refine And.intro (fun c => absurd c ?_) (fun c => ?_)
      · exact nI_ge (a := k) (b := 146) (by omega) (by decide)
      · have e1 : (nI f + nI k).toNatClampNeg = f + k := by rw [nI_add, nI_clamp (by omega)]
        have e2 : (nI t + nI k).toNatClampNeg = t + k := by rw [nI_add, nI_clamp (by omega)]
        refine And.intro (show vp_in (nI f + nI k) (e_ln 14 x) from ?_) ?_
        · rw [nI_add]; exact nI_in (by omega) (Nat.lt_of_le_of_lt (e_ln14 _) (by decide))
        refine And.intro (show vp_in (nI t + nI k) (e_ln 14 y) from ?_) ?_
        · rw [nI_add]; exact nI_in (by omega) (Nat.lt_of_le_of_lt (e_ln14 _) (by decide))
        show e_Run tb_X5_copy post e_no 3 [some (aR 14 x), some (aI (nI f)), some (aR 14 y), some (aI (nI t)), some (aI (nI k + 1))] [] (sI S1 14 y (nI t + nI k).toNatClampNeg (mI S1 14 x (nI f + nI k).toNatClampNeg)) 0 0
        rw [e1, e2, nI_1, h1 14 x (by omega)]
        refine ih (k + 1) (by omega) _ (fun a b hab => ?_) h2 h3 (fun j => ?_)
        · rw [← h1 a b hab]
          exact e_u3_ne (fun z => hab ⟨congrArg Prod.fst z, congrArg Prod.snd z⟩)
        · show (if 14 = 14 ∧ y = y ∧ j = t + k then mI S 14 x (f + k) else mI S1 14 y j) = _
          rw [h4 j]
          by_cases hj : j = t + k
          · subst hj
            rw [if_pos ⟨rfl, rfl, rfl⟩, if_pos (by omega), Nat.add_sub_cancel_left]
          · rw [if_neg (fun z => hj z.2.2)]
            by_cases hj2 : t ≤ j ∧ j < t + k
            · rw [if_pos hj2, if_pos (by omega)]
            · rw [if_neg hj2, if_neg (by omega)]
  show e_Run tb_X5_copy post e_no 0 [some (aR 14 x), some (aI (nI f)), some (aR 14 y), some (aI (nI t)), none] [] S 0 0
  refine e_walk (stops := [3]) 3 ?_
  exact key 146 0 rfl S (fun _ _ _ => rfl) rfl rfl (fun j => by rw [if_neg (by omega)])
theorem nI_mul (a b : Nat) : nI a * nI b = nI (a * b) := (Int32.ofNat_mul a b).symm
theorem q_in {x : Int32} {n L : Nat} (hx : x = nI n) (h : n < L) (hL : L ≤ 65536) : vp_in x L := by subst hx; exact nI_in h (by omega)
theorem q_cl {x : Int32} {n : Nat} (hx : x = nI n) (h : n < 65536) : x.toNatClampNeg = n := by subst hx; exact nI_clamp (by omega)
/-- the reference's row of numbers -/
abbrev qV : Type := Nat → Int32
abbrev q_of (v : qV) (p w : Nat) : Int32 := v (16 + 7 * p + w)
abbrev q_its (v : qV) (i w : Nat) : Int32 := v (86 + 5 * i + w)
def q_sm (B : Nat) (x : Int32) : Prop := ∃ n, n ≤ B ∧ x = nI n
def q_has (v : qV) (p : Nat) : Nat := (q_of v p 4).toNatClampNeg
def q_plays (v : qV) (p : Nat) : Bool := decide (0 < q_has v p) && decide (q_its v (q_has v p - 1) 1 < 5)
def q_kf (m k : Nat) : Nat := (m + k / 2) % 4
def q_lf (m k : Nat) : Int32 := if (2 : Int32) + 3 * nI m - 2 * nI k < 1 then 1 else 2 + 3 * nI m - 2 * nI k
def q_could (v : qV) (p m k : Nat) : Bool := q_plays v p && (decide (q_its v (q_has v p - 1) 0 = nI (q_kf m k)) && (decide (¬ q_of v p 1 < nI (4 + 2 * k)) && decide (¬ q_of v p 2 < q_lf m k)))
/-- who gets a part, of the first n pupils -/
def q_bst (v : qV) (m k : Nat) (tk : Int32) : Nat → Int32
  | 0 => -1
  | n + 1 => cond (decide (tk >>> (nI n &&& 31) &&& 1 = 0) && (q_could v n m k && (decide (q_bst v m k tk n = -1) || decide (q_of v (q_bst v m k tk n).toNatClampNeg 2 < q_of v n 2)))) (nI n) (q_bst v m k tk n)
def q_tk (v : qV) (m np : Nat) : Nat → Int32
  | 0 => 0
  | k + 1 => cond (decide (q_bst v m k (q_tk v m np k) np = -1)) (q_tk v m np k) (q_tk v m np k ||| (1 : Int32) <<< (q_bst v m k (q_tk v m np k) np &&& 31))
def q_pl (v : qV) (m np k : Nat) : Int32 := q_bst v m k (q_tk v m np k) np
def q_sh (v : qV) (m np : Nat) : Nat → Nat
  | 0 => 0
  | k + 1 => q_sh v m np k + cond (decide (q_pl v m np k = -1)) 1 0
/-- what is small in a row -/
def q_ok0 (v : qV) (np ni : Nat) : Prop := np ≤ 10 ∧ ni ≤ 10 ∧ v 0 = nI np ∧ v 1 = nI ni ∧ ∀ p, p < np → ∃ h, h ≤ ni ∧ q_of v p 4 = nI h
theorem q_ok0.has {v : qV} {np ni p : Nat} (h : q_ok0 v np ni) (hp : p < np) : q_has v p ≤ 10 ∧ q_has v p ≤ ni ∧ q_of v p 4 = nI (q_has v p) := by
  obtain ⟨h1, h2, h3, h4, h5⟩ := h
  obtain ⟨k, k1, k2⟩ := h5 p hp
  have e : q_has v p = k := q_cl k2 (by omega)
  exact ⟨by omega, by omega, by rw [e]; exact k2⟩
theorem q_X5_of {S : eM} {post : eQ} {p w : Nat} (hp : p < 10) (hw : w < 7) (h : post (some (aI (q_of (mI S 14 0) p w))) S) : w_X5_of [aR 13 0, aI (nI p), aI (nI w)] S post := by
  have e : (nI 16 + nI 7 * nI p) + nI w = nI (16 + 7 * p + w) := by rw [nI_mul, nI_add, nI_add]
  refine e_walk (stops := []) 20 ?_
  refine And.intro (q_in e (show 16 + 7 * p + w < 146 by omega) (by decide)) ?_
  show post (some (aI (mI S 14 0 ((nI 16 + nI 7 * nI p) + nI w).toNatClampNeg))) S
  rw [q_cl e (by omega)]
  exact h
theorem q_X5_its {S : eM} {post : eQ} {i w : Nat} (hi : i < 10) (hw : w < 5) (h : post (some (aI (q_its (mI S 14 0) i w))) S) : w_X5_its [aR 13 0, aI (nI i), aI (nI w)] S post := by
  have e : (nI 86 + nI 5 * nI i) + nI w = nI (86 + 5 * i + w) := by rw [nI_mul, nI_add, nI_add]
  refine e_walk (stops := []) 20 ?_
  refine And.intro (q_in e (show 86 + 5 * i + w < 146 by omega) (by decide)) ?_
  show post (some (aI (mI S 14 0 ((nI 86 + nI 5 * nI i) + nI w).toNatClampNeg))) S
  rw [q_cl e (by omega)]
  exact h
theorem q_X5_canBePlayed {S : eM} {post : eQ} {i : Nat} (hi : i < 10) (h : post (some (aI (cond (decide (q_its (mI S 14 0) i 1 < 5)) 1 0))) S) : w_X5_canBePlayed [aR 13 0, aI (nI i)] S post := by
  refine e_walk (stops := [6]) 9 ?_
  refine q_X5_its (w := 1) hi (by decide) ?_
  refine e_walk (stops := []) 20 ?_
  refine And.intro (fun c => ?_) (fun c => ?_)
  · rw [decide_eq_false (show ¬ q_its (mI S 14 0) i 1 < 5 from Int32.not_lt.mpr c)] at h
    exact h
  · rw [decide_eq_true (show q_its (mI S 14 0) i 1 < 5 from Int32.not_le.mp c)] at h
    exact h
theorem q_pred {n : Nat} (h : 0 < n) : nI n - 1 = nI (n - 1) := by
  obtain ⟨k, rfl⟩ : ∃ k, n = k + 1 := ⟨n - 1, by omega⟩
  exact nI_pred k
theorem q_X5_canPlay {S : eM} {post : eQ} {p np ni : Nat} (hv : q_ok0 (mI S 14 0) np ni) (hp : p < np) (h : post (some (aI (cond (q_plays (mI S 14 0) p) 1 0))) S) : w_X5_canPlay [aR 13 0, aI (nI p)] S post := by
  obtain ⟨h1, h2, h3⟩ := hv.has hp
  have hp10 : p < 10 := Nat.lt_of_lt_of_le hp hv.1
  refine e_walk (stops := [6]) 9 ?_
  refine q_X5_of (w := 4) hp10 (by decide) ?_
  refine e_walk (stops := [16]) 9 ?_
  rw [q_plays] at h
  refine And.intro (fun c => ?_) (fun c => ?_)
  · have c : q_of (mI S 14 0) p 4 ≤ 0 := c
    have z : ¬ 0 < q_has (mI S 14 0) p := fun z => by rw [h3] at c; exact nI_nle z (by omega) c
    rw [decide_eq_false z] at h
    exact h
  · have c : ¬ q_of (mI S 14 0) p 4 ≤ 0 := c
    have z : 0 < q_has (mI S 14 0) p := Nat.pos_of_ne_zero (fun z => c (by rw [h3, z]; decide))
    rw [decide_eq_true z] at h
    refine q_X5_of (w := 4) hp10 (by decide) ?_
    refine e_walk (stops := [18]) 8 ?_
    show e_Run tb_X5_canPlay post e_no 18 [some (aR 13 0), some (aI (nI p))] [aI (q_of (mI S 14 0) p 4 - 1), aR 13 0] S 0 0
    rw [h3, q_pred z]
    refine e_walk (stops := [21]) 1 ?_
    refine q_X5_canBePlayed (by omega) ?_
    refine e_walk (stops := []) 8 ?_
    by_cases z2 : q_its (mI S 14 0) (q_has (mI S 14 0) p - 1) 1 < 5
    · rw [decide_eq_true z2] at h ⊢
      exact And.intro (fun c => absurd c (by decide)) (fun c => h)
    · rw [decide_eq_false z2] at h ⊢
      exact And.intro (fun c => h) (fun c => absurd rfl c)
theorem q_kf_eq {m k : Nat} (hm : m < 4) (hk : k < 4) : (nI m + nI k / 2) - (nI m + nI k / 2) / 4 * 4 = nI (q_kf m k) := by
  rcases (show m = 0 ∨ m = 1 ∨ m = 2 ∨ m = 3 by omega) with rfl | rfl | rfl | rfl <;> rcases (show k = 0 ∨ k = 1 ∨ k = 2 ∨ k = 3 by omega) with rfl | rfl | rfl | rfl <;> decide +kernel
theorem q_X5_kindFor {S : eM} {post : eQ} {m k : Nat} (hm : m < 4) (hk : k < 4) (h : post (some (aI (nI (q_kf m k)))) S) : w_X5_kindFor [aI (nI m), aI (nI k)] S post := by
  refine e_walk (stops := []) 20 ?_
  refine And.intro (by decide) (And.intro (by decide) ?_)
  show post (some (aI ((nI m + nI k / 2) - (nI m + nI k / 2) / 4 * 4))) S
  rw [q_kf_eq hm hk]
  exact h
theorem q_X5_breathFor {S : eM} {post : eQ} {k : Nat} (h : post (some (aI (nI (4 + 2 * k)))) S) : w_X5_breathFor [aI (nI k)] S post := by
  refine e_walk (stops := []) 20 ?_
  show post (some (aI (nI 4 + nI 2 * nI k))) S
  rw [nI_mul, nI_add]
  exact h
theorem q_X5_lipsFor {S : eM} {post : eQ} {m k : Nat} (h : post (some (aI (q_lf m k))) S) : w_X5_lipsFor [aI (nI m), aI (nI k)] S post := by
  refine e_walk (stops := []) 20 ?_
  unfold q_lf at h
  refine And.intro (fun c => ?_) (fun c => ?_)
  · rw [if_neg (Int32.not_lt.mpr c)] at h
    exact h
  · rw [if_pos (Int32.not_le.mp c)] at h
    exact h
theorem q_plays_pos {v : qV} {p : Nat} (h : q_plays v p = true) : 0 < q_has v p := by
  unfold q_plays at h
  rw [Bool.and_eq_true] at h
  exact of_decide_eq_true h.1
theorem q_X5_kindOf {S : eM} {post : eQ} {p np ni : Nat} (hv : q_ok0 (mI S 14 0) np ni) (hp : p < np) (h0 : 0 < q_has (mI S 14 0) p) (h : post (some (aI (q_its (mI S 14 0) (q_has (mI S 14 0) p - 1) 0))) S) : w_X5_kindOf [aR 13 0, aI (nI p)] S post := by
  obtain ⟨h1, h2, h3⟩ := hv.has hp
  have hp10 : p < 10 := Nat.lt_of_lt_of_le hp hv.1
  refine e_walk (stops := [7]) 9 ?_
  refine q_X5_of (w := 4) hp10 (by decide) ?_
  refine e_walk (stops := [10]) 8 ?_
  show e_Run tb_X5_kindOf post e_no 10 [some (aR 13 0), some (aI (nI p))] [aI 0, aI (q_of (mI S 14 0) p 4 - 1), aR 13 0] S 0 0
  rw [h3, q_pred h0]
  refine e_walk (stops := [13]) 1 ?_
  refine q_X5_its (w := 0) (by omega) (by decide) ?_
  refine e_walk (stops := []) 3 ?_
  exact h
theorem q_X5_couldPlay {S : eM} {post : eQ} {p np ni m k : Nat} (hv : q_ok0 (mI S 14 0) np ni) (hp : p < np) (hm : m < 4) (hk : k < 4) (h : post (some (aI (cond (q_could (mI S 14 0) p m k) 1 0))) S) : w_X5_couldPlay [aR 13 0, aI (nI p), aI (nI m), aI (nI k)] S post := by
  have hp10 : p < 10 := Nat.lt_of_lt_of_le hp hv.1
  unfold q_could at h
  refine e_walk (stops := [5]) 9 ?_
  refine q_X5_canPlay hv hp ?_
  refine e_walk (stops := [13]) 9 ?_
  cases z1 : q_plays (mI S 14 0) p with
  | false =>
    rw [z1] at h
    refine And.intro (fun c => h) (fun c => absurd rfl c)
  | true =>
    rw [z1, Bool.true_and] at h
    refine And.intro (fun c => absurd c (by decide)) (fun c => ?_)
    refine q_X5_kindOf hv hp (q_plays_pos z1) ?_
    refine e_walk (stops := [18]) 9 ?_
    refine q_X5_kindFor hm hk ?_
    refine e_walk (stops := [27]) 9 ?_
    refine And.intro (fun c => ?_) (fun c => ?_)
    · rw [decide_eq_true (show q_its (mI S 14 0) (q_has (mI S 14 0) p - 1) 0 = nI (q_kf m k) from c), Bool.true_and] at h
      refine q_X5_of (w := 1) hp10 (by decide) ?_
      refine e_walk (stops := [31]) 9 ?_
      refine q_X5_breathFor ?_
      refine e_walk (stops := [40]) 9 ?_
      refine And.intro (fun c => ?_) (fun c => ?_)
      · rw [decide_eq_false (show ¬ ¬ q_of (mI S 14 0) p 1 < nI (4 + 2 * k) from fun z => z c), Bool.false_and] at h
        exact h
      · rw [decide_eq_true (show ¬ q_of (mI S 14 0) p 1 < nI (4 + 2 * k) from c), Bool.true_and] at h
        refine q_X5_of (w := 2) hp10 (by decide) ?_
        refine e_walk (stops := [45]) 9 ?_
        refine q_X5_lipsFor ?_
        refine e_walk (stops := []) 9 ?_
        refine And.intro (fun c => ?_) (fun c => ?_)
        · rw [decide_eq_false (show ¬ ¬ q_of (mI S 14 0) p 2 < q_lf m k from fun z => z c)] at h
          exact h
        · rw [decide_eq_true (show ¬ q_of (mI S 14 0) p 2 < q_lf m k from c)] at h
          exact h
    · rw [decide_eq_false (show ¬ q_its (mI S 14 0) (q_has (mI S 14 0) p - 1) 0 = nI (q_kf m k) from c), Bool.false_and] at h
      exact h
/-- all but one of the reference's rows is as it was -/
def q_fr1 (i0 : Nat) (S S2 : eM) : Prop := (∀ k i, ¬ (k = 14 ∧ i = i0) → mI S2 k i = mI S k i) ∧ mR S2 = mR S ∧ mL S2 = mL S
theorem q_fr1.rf {i0 : Nat} {S : eM} : q_fr1 i0 S S := ⟨fun _ _ _ => rfl, rfl, rfl⟩
theorem q_fr1.set {i0 : Nat} {S S1 : eM} (h : q_fr1 i0 S S1) {j : Nat} {x : Int32} : q_fr1 i0 S (sI S1 14 i0 j x) :=
  ⟨fun a b hab => (e_u3_ne (fun z => hab ⟨congrArg Prod.fst z, congrArg Prod.snd z⟩)).trans (h.1 a b hab), h.2⟩
theorem q_sI {S : eM} {k i j a : Nat} {x : Int32} : mI (sI S k i j x) k i a = if a = j then x else mI S k i a := by
  show (if k = k ∧ i = i ∧ a = j then x else mI S k i a) = _
  by_cases h : a = j
  · rw [if_pos ⟨rfl, rfl, h⟩, if_pos h]
  · rw [if_neg (fun z => h z.2.2), if_neg h]
theorem q_bst_cases (v : qV) (m k : Nat) (tk : Int32) : ∀ n, q_bst v m k tk n = -1 ∨ ∃ j, j < n ∧ q_bst v m k tk n = nI j
  | 0 => Or.inl rfl
  | n + 1 => by
    rw [q_bst]
    cases (decide (tk >>> (nI n &&& 31) &&& 1 = 0) && (q_could v n m k && (decide (q_bst v m k tk n = -1) || decide (q_of v (q_bst v m k tk n).toNatClampNeg 2 < q_of v n 2)))) with
    | true => exact Or.inr ⟨n, by omega, rfl⟩
    | false =>
      rcases q_bst_cases v m k tk n with h | ⟨j, h1, h2⟩
      · exact Or.inl h
      · exact Or.inr ⟨j, by omega, h2⟩
theorem q_X5_lineUp {S : eM} {post : eQ} {np ni m : Nat} (hv : q_ok0 (mI S 14 0) np ni) (hm : m < 4) (hp : ∀ S2, q_fr1 5 S S2 → (∀ j, j < 4 → mI S2 14 5 j = q_pl (mI S 14 0) m np j) → post (some (aI (nI (q_sh (mI S 14 0) m np 4)))) S2) : w_X5_lineUp [aR 13 0, aI (nI m)] S post := by
  have hnp : np ≤ 10 := hv.1
  have outer : ∀ d k, k + d = 4 → ∀ S1, q_fr1 5 S S1 → (∀ j, j < k → mI S1 14 5 j = q_pl (mI S 14 0) m np j) → ∀ l5 l6 : Option eV, e_Run tb_X5_lineUp post e_no 7 [some (aR 13 0), some (aI (nI m)), some (aI (q_tk (mI S 14 0) m np k)), some (aI (nI (q_sh (mI S 14 0) m np k))), some (aI (nI k)), l5, l6] [] S1 0 0 := by
    intro d
    induction d with
    | zero =>
      intro k hk S1 h1 h2 l5 l6
      obtain rfl : k = 4 := by omega
      refine e_walk (stops := []) 10 ?_
      exact And.intro (fun c => hp S1 h1 h2) (fun c => absurd (show (4 : Int32) ≤ nI 4 by decide) c)
    | succ d ihd =>
      intro k hk S1 h1 h2 l5 l6
      have hk4 : k < 4 := by omega
      have ek : (nI k).toNatClampNeg = k := nI_clamp (by omega)
      refine e_walk (stops := [24]) 30 ?_
      refine And.intro (fun c => absurd c (nI_ge (a := k) (b := 4) (by omega) (by decide))) (fun c => ?_)
      refine And.intro (q_in (n := k) rfl (show k < 4 from hk4) (by decide)) ?_
      show e_Run tb_X5_lineUp post e_no 24 [some (aR 13 0), some (aI (nI m)), some (aI (q_tk (mI S 14 0) m np k)), some (aI (nI (q_sh (mI S 14 0) m np k))), some (aI (nI k)), some (aI (nI 0)), l6] [] (sI S1 14 5 (nI k).toNatClampNeg (-1)) 0 0
      rw [ek]
      have inner : ∀ e n, n + e = np → ∀ S1, q_fr1 5 S S1 → (∀ j, j < k → mI S1 14 5 j = q_pl (mI S 14 0) m np j) → mI S1 14 5 k = q_bst (mI S 14 0) m k (q_tk (mI S 14 0) m np k) n → ∀ l6 : Option eV, e_Run tb_X5_lineUp post e_no 24 [some (aR 13 0), some (aI (nI m)), some (aI (q_tk (mI S 14 0) m np k)), some (aI (nI (q_sh (mI S 14 0) m np k))), some (aI (nI k)), some (aI (nI n)), l6] [] S1 0 0 := by
        intro e
        induction e with
        | zero =>
          intro n hn S1 h1 h2 h3 l6
          obtain rfl : n = np := by omega
          have hv0 : mI S1 14 0 = mI S 14 0 := h1.1 14 0 (by decide)
          have hs0 : mI S1 14 0 0 = nI n := by rw [hv0]; exact hv.2.2.1
          refine e_walk (stops := [7, 126]) 10 ?_
          refine And.intro (fun c => ?_) (fun c => absurd (show mI S1 14 0 0 ≤ nI n by rw [hs0]; exact nI_le (Nat.le_refl _) (by omega)) c)
          have hx : mI S1 14 5 (nI k).toNatClampNeg = q_pl (mI S 14 0) m n k := by rw [ek]; exact h3
          have h2b : ∀ j, j < k + 1 → mI S1 14 5 j = q_pl (mI S 14 0) m n j := fun j hj => by
            rcases Nat.lt_succ_iff_lt_or_eq.mp hj with z | rfl
            · exact h2 j z
            · exact h3
          refine e_walk (stops := [7, 135]) 10 ?_
          refine And.intro (q_in (n := k) rfl (show k < 4 from hk4) (by decide)) ?_
          show e_Run tb_X5_lineUp post e_no 135 [some (aR 13 0), some (aI (nI m)), some (aI (q_tk (mI S 14 0) m n k)), some (aI (nI (q_sh (mI S 14 0) m n k))), some (aI (nI k)), some (aI (nI n)), l6] [aI (-1), aI (mI S1 14 5 (nI k).toNatClampNeg), aI (q_tk (mI S 14 0) m n k)] S1 0 0
          rw [hx]
          by_cases hz : q_pl (mI S 14 0) m n k = -1
          · have e1 : q_tk (mI S 14 0) m n (k + 1) = q_tk (mI S 14 0) m n k := by rw [q_tk]; rw [show q_bst (mI S 14 0) m k (q_tk (mI S 14 0) m n k) n = -1 from hz]; rfl
            have e2 : q_sh (mI S 14 0) m n (k + 1) = q_sh (mI S 14 0) m n k + 1 := by rw [q_sh, hz]; rfl
            refine e_walk (stops := [7, 162]) 15 ?_
            refine And.intro (fun c => ?_) (fun c => absurd hz c)
            refine And.intro (q_in (n := k) rfl (show k < 4 from hk4) (by decide)) ?_
            show e_Run tb_X5_lineUp post e_no 162 [some (aR 13 0), some (aI (nI m)), some (aI (q_tk (mI S 14 0) m n k ||| 0)), some (aI (nI (q_sh (mI S 14 0) m n k))), some (aI (nI k)), some (aI (nI n)), l6] [aI (-1), aI (mI S1 14 5 (nI k).toNatClampNeg), aI (nI (q_sh (mI S 14 0) m n k))] S1 0 0
            rw [hx, hz, Int32.or_zero]
            refine e_walk (stops := [7]) 15 ?_
            refine And.intro (fun c => ?_) (fun c => absurd rfl c)
            show e_Run tb_X5_lineUp post e_no 7 [some (aR 13 0), some (aI (nI m)), some (aI (q_tk (mI S 14 0) m n k)), some (aI (nI (q_sh (mI S 14 0) m n k) + 1)), some (aI (nI k + 1)), some (aI (nI n)), l6] [] S1 0 0
            rw [nI_1, nI_1, ← e1, ← e2]
            exact ihd (k + 1) (by omega) S1 h1 h2b _ _
          · have e1 : q_tk (mI S 14 0) m n (k + 1) = q_tk (mI S 14 0) m n k ||| (1 : Int32) <<< (q_pl (mI S 14 0) m n k &&& 31) := by rw [q_tk, decide_eq_false (show ¬ q_bst (mI S 14 0) m k (q_tk (mI S 14 0) m n k) n = -1 from hz)]; rfl
            have e2 : q_sh (mI S 14 0) m n (k + 1) = q_sh (mI S 14 0) m n k := by rw [q_sh, decide_eq_false hz]; rfl
            refine e_walk (stops := [7, 150]) 15 ?_
            refine And.intro (fun c => absurd c hz) (fun c => ?_)
            refine And.intro (q_in (n := k) rfl (show k < 4 from hk4) (by decide)) ?_
            show e_Run tb_X5_lineUp post e_no 150 [some (aR 13 0), some (aI (nI m)), some (aI (q_tk (mI S 14 0) m n k)), some (aI (nI (q_sh (mI S 14 0) m n k))), some (aI (nI k)), some (aI (nI n)), l6] [aI (mI S1 14 5 (nI k).toNatClampNeg), aI 1, aI (q_tk (mI S 14 0) m n k)] S1 0 0
            rw [hx]
            refine e_walk (stops := [7, 162]) 15 ?_
            refine And.intro (q_in (n := k) rfl (show k < 4 from hk4) (by decide)) ?_
            show e_Run tb_X5_lineUp post e_no 162 [some (aR 13 0), some (aI (nI m)), some (aI (q_tk (mI S 14 0) m n k ||| (1 : Int32) <<< (q_pl (mI S 14 0) m n k &&& 31))), some (aI (nI (q_sh (mI S 14 0) m n k))), some (aI (nI k)), some (aI (nI n)), l6] [aI (-1), aI (mI S1 14 5 (nI k).toNatClampNeg), aI (nI (q_sh (mI S 14 0) m n k))] S1 0 0
            rw [hx]
            refine e_walk (stops := [7]) 15 ?_
            refine And.intro (fun c => absurd c hz) (fun c => ?_)
            show e_Run tb_X5_lineUp post e_no 7 [some (aR 13 0), some (aI (nI m)), some (aI (q_tk (mI S 14 0) m n k ||| (1 : Int32) <<< (q_pl (mI S 14 0) m n k &&& 31))), some (aI (nI (q_sh (mI S 14 0) m n k) + nI 0)), some (aI (nI k + 1)), some (aI (nI n)), l6] [] S1 0 0
            rw [nI_1, nI_add, Nat.add_zero, ← e1, ← e2]
            exact ihd (k + 1) (by omega) S1 h1 h2b _ _
        | succ e ihe =>
          intro n hn S1 h1 h2 h3 l6
          have hv0 : mI S1 14 0 = mI S 14 0 := h1.1 14 0 (by decide)
          have hs0 : mI S1 14 0 0 = nI np := by rw [hv0]; exact hv.2.2.1
          have hv1 : q_ok0 (mI S1 14 0) np ni := by rw [hv0]; exact hv
          have hn10 : n < 10 := by omega
          have fin : ∀ (x : Int32) (l6 : Option eV), x = q_bst (mI S 14 0) m k (q_tk (mI S 14 0) m np k) (n + 1) → e_Run tb_X5_lineUp post e_no 119 [some (aR 13 0), some (aI (nI m)), some (aI (q_tk (mI S 14 0) m np k)), some (aI (nI (q_sh (mI S 14 0) m np k))), some (aI (nI k)), some (aI (nI n)), l6] [aI x, aI (nI k), aR 14 5] S1 0 0 := by
            intro x l6 hx
            refine e_walk (stops := [24]) 10 ?_
            refine And.intro (q_in (n := k) rfl (show k < 4 from hk4) (by decide)) ?_
            show e_Run tb_X5_lineUp post e_no 24 [some (aR 13 0), some (aI (nI m)), some (aI (q_tk (mI S 14 0) m np k)), some (aI (nI (q_sh (mI S 14 0) m np k))), some (aI (nI k)), some (aI (nI n + 1)), l6] [] (sI S1 14 5 (nI k).toNatClampNeg x) 0 0
            rw [ek, nI_1]
            refine ihe (n + 1) (by omega) _ h1.set (fun j hj => ?_) ?_ _
            · rw [q_sI, if_neg (by omega)]
              exact h2 j hj
            · rw [q_sI, if_pos rfl]
              exact hx
          have hx : mI S1 14 5 (nI k).toNatClampNeg = q_bst (mI S 14 0) m k (q_tk (mI S 14 0) m np k) n := by rw [ek]; exact h3
          have no : ∀ l6, (decide (q_tk (mI S 14 0) m np k >>> (nI n &&& 31) &&& 1 = 0) && q_could (mI S 14 0) n m k) = false → e_Run tb_X5_lineUp post e_no 61 [some (aR 13 0), some (aI (nI m)), some (aI (q_tk (mI S 14 0) m np k)), some (aI (nI (q_sh (mI S 14 0) m np k))), some (aI (nI k)), some (aI (nI n)), l6] [aI 0] S1 0 0 := by
            intro l6 hz
            refine e_walk (stops := [119]) 20 ?_
            refine And.intro (fun c => ?_) (fun c => absurd rfl c)
            refine And.intro (q_in (n := k) rfl (show k < 4 from hk4) (by decide)) ?_
            refine fin _ _ ?_
            rw [hx, q_bst, ← Bool.and_assoc, hz]
            rfl
          refine e_walk (stops := [50, 60]) 20 ?_
          refine And.intro (fun c => absurd (show mI S1 14 0 0 ≤ nI n from c) (by rw [hs0]; exact nI_ge (by omega) (by omega))) (fun c => ?_)
          refine And.intro (fun c => ?_) (fun c => ?_)
          · have cd : decide (q_tk (mI S 14 0) m np k >>> (nI n &&& 31) &&& 1 = 0) = true := decide_eq_true c
            refine e_walk (stops := [53]) 1 ?_
            refine q_X5_couldPlay (p := n) hv1 (by omega) hm hk4 ?_
            rw [hv0]
            cases hcd : q_could (mI S 14 0) n m k with
            | false =>
              refine e_walk (stops := [61]) 10 ?_
              refine And.intro (fun c => no _ (by rw [hcd, Bool.and_false])) (fun c => absurd rfl c)
            | true =>
              refine e_walk (stops := [82]) 20 ?_
              refine And.intro (fun c => absurd c (by decide)) (fun c => ?_)
              refine And.intro (fun c => absurd c (by decide)) (fun c => ?_)
              refine And.intro (q_in (n := k) rfl (show k < 4 from hk4) (by decide)) ?_
              show e_Run tb_X5_lineUp post e_no 82 [some (aR 13 0), some (aI (nI m)), some (aI (q_tk (mI S 14 0) m np k)), some (aI (nI (q_sh (mI S 14 0) m np k))), some (aI (nI k)), some (aI (nI n)), some (aI 1)] [aI (-1), aI (mI S1 14 5 (nI k).toNatClampNeg), aI (nI k), aR 14 5] S1 0 0
              rw [hx]
              rcases q_bst_cases (mI S 14 0) m k (q_tk (mI S 14 0) m np k) n with hb | ⟨j, hj, hb⟩
              · rw [hb]
                refine e_walk (stops := [119]) 20 ?_
                refine And.intro (fun c => ?_) (fun c => absurd rfl c)
                refine fin _ _ ?_
                rw [q_bst, cd, hcd, hb]
                rfl
              · have hbne : ¬ nI j = -1 := by
                  intro z
                  have := congrArg Int32.toInt z
                  rw [nI_toInt (by omega)] at this
                  exact absurd this (by show ¬ (j : Int) = -1; omega)
                rw [hb]
                refine e_walk (stops := [92]) 9 ?_
                refine And.intro (fun c => absurd c hbne) (fun c => ?_)
                refine q_X5_of (w := 2) hn10 (by decide) ?_
                refine e_walk (stops := [101]) 10 ?_
                refine And.intro (q_in (n := k) rfl (show k < 4 from hk4) (by decide)) ?_
                show e_Run tb_X5_lineUp post e_no 101 [some (aR 13 0), some (aI (nI m)), some (aI (q_tk (mI S 14 0) m np k)), some (aI (nI (q_sh (mI S 14 0) m np k))), some (aI (nI k)), some (aI (nI n)), some (aI 1)] [aI 2, aI (mI S1 14 5 (nI k).toNatClampNeg), aR 13 0, aI (q_of (mI S1 14 0) n 2), aI (nI k), aR 14 5] S1 0 0
                rw [hx, hb]
                refine e_walk (stops := [104]) 1 ?_
                refine q_X5_of (p := j) (w := 2) (by omega) (by decide) ?_
                rw [hv0]
                refine e_walk (stops := [119]) 10 ?_
                refine And.intro (fun c => ?_) (fun c => ?_)
                · refine And.intro (q_in (n := k) rfl (show k < 4 from hk4) (by decide)) ?_
                  refine fin _ _ ?_
                  rw [hx, q_bst, cd, hcd, hb, decide_eq_false hbne, nI_clamp (by omega), decide_eq_false (Int32.not_lt.mpr c)]
                  rfl
                · refine fin _ _ ?_
                  rw [q_bst, cd, hcd, hb, decide_eq_false hbne, nI_clamp (by omega), decide_eq_true (Int32.not_le.mp c)]
                  rfl
          · have cd : decide (q_tk (mI S 14 0) m np k >>> (nI n &&& 31) &&& 1 = 0) = false := decide_eq_false c
            refine e_walk (stops := [61]) 3 ?_
            exact no _ (by rw [cd, Bool.false_and])
      refine inner np 0 (by omega) _ h1.set (fun j hj => ?_) ?_ _
      · rw [q_sI, if_neg (by omega)]
        exact h2 j hj
      · rw [q_sI, if_pos rfl]
        rfl
  refine e_walk (stops := [7]) 10 ?_
  exact outer 4 0 rfl S q_fr1.rf (fun j hj => absurd hj (by omega)) _ _
theorem q_X5_put {S : eM} {post : eQ} {p w : Nat} {x : Int32} (hp : p < 10) (hw : w < 7) (h : post none (sI S 14 0 (16 + 7 * p + w) x)) : w_X5_put [aR 13 0, aI (nI p), aI (nI w), aI x] S post := by
  have e : (nI 16 + nI 7 * nI p) + nI w = nI (16 + 7 * p + w) := by rw [nI_mul, nI_add, nI_add]
  refine e_walk (stops := []) 20 ?_
  refine And.intro (q_in e (show 16 + 7 * p + w < 146 by omega) (by decide)) ?_
  show post none (sI S 14 0 ((nI 16 + nI 7 * nI p) + nI w).toNatClampNeg x)
  rw [q_cl e (by omega)]
  exact h
theorem q_X5_lay {S : eM} {post : eQ} {i w : Nat} {x : Int32} (hi : i < 10) (hw : w < 5) (h : post none (sI S 14 0 (86 + 5 * i + w) x)) : w_X5_lay [aR 13 0, aI (nI i), aI (nI w), aI x] S post := by
  have e : (nI 86 + nI 5 * nI i) + nI w = nI (86 + 5 * i + w) := by rw [nI_mul, nI_add, nI_add]
  refine e_walk (stops := []) 20 ?_
  refine And.intro (q_in e (show 86 + 5 * i + w < 146 by omega) (by decide)) ?_
  show post none (sI S 14 0 ((nI 86 + nI 5 * nI i) + nI w).toNatClampNeg x)
  rw [q_cl e (by omega)]
  exact h
/-- a number is an index below n -/
def q_ix (x : Int32) (n : Nat) : Bool := decide (¬ x < 0) && decide (x < nI n)
theorem q_ix_of {x : Int32} {n : Nat} (hn : n ≤ 65536) (h : q_ix x n = true) : ∃ k, k < n ∧ x = nI k := by
  unfold q_ix at h
  rw [Bool.and_eq_true] at h
  have h1 := of_decide_eq_true h.1
  have h2 := of_decide_eq_true h.2
  obtain ⟨k, hk, rfl⟩ := nI_of h1
  exact ⟨k, (nI_ltI hk (by omega)).mp h2, rfl⟩
theorem q_ix_mk {k n : Nat} (hn : n ≤ 65536) (h : k < n) : q_ix (nI k) n = true := by
  unfold q_ix
  rw [decide_eq_true (nI_pos (by omega)), decide_eq_true (nI_lt h (by omega))]
  rfl
theorem q_hi {x : Int32} {n : Nat} (hn : n ≤ 65536) : decide (¬ nI n - 1 < x) = decide (x < nI n) := by
  refine decide_eq_decide.mpr ?_
  have e : (nI n - 1).toInt = (n : Int) - 1 := by
    rcases Nat.eq_zero_or_pos n with rfl | h
    · decide
    · rw [q_pred h, nI_toInt (by omega)]
      omega
  rw [Int32.not_lt, Int32.le_iff_toInt_le, Int32.lt_iff_toInt_lt, e, nI_toInt (by omega)]
  omega
theorem q_X5_in {S : eM} {post : eQ} {x lo hi : Int32} (h : post (some (aI (cond (decide (¬ x < lo) && decide (¬ hi < x)) 1 0))) S) : w_X5_in [aI x, aI lo, aI hi] S post := by
  refine e_walk (stops := []) 20 ?_
  refine And.intro (fun c => ?_) (fun c => ?_)
  · rw [decide_eq_false (show ¬ ¬ x < lo from fun z => z c)] at h
    exact h
  · rw [decide_eq_true (show ¬ x < lo from c), Bool.true_and] at h
    refine And.intro (fun c => ?_) (fun c => ?_)
    · rw [decide_eq_false (show ¬ ¬ hi < x from fun z => z c)] at h
      exact h
    · rw [decide_eq_true (show ¬ hi < x from c)] at h
      exact h
theorem q_X5_isPupil {S : eM} {post : eQ} {x : Int32} {np ni : Nat} (hv : q_ok0 (mI S 14 0) np ni) (h : post (some (aI (cond (q_ix x np) 1 0))) S) : w_X5_isPupil [aR 13 0, aI x] S post := by
  refine e_walk (stops := [10]) 20 ?_
  show e_Run tb_X5_isPupil post e_no 10 [some (aR 13 0), some (aI x)] [aI (mI S 14 0 0 - 1), aI 0, aI x] S 0 0
  rw [hv.2.2.1]
  refine e_walk (stops := [13]) 1 ?_
  refine q_X5_in ?_
  have hnp := hv.1
  rw [q_hi (by omega), show (decide (¬ x < 0) && decide (x < nI np)) = q_ix x np from rfl]
  refine e_walk (stops := []) 2 ?_
  cases hz : q_ix x np <;> rw [hz] at h <;> exact h
theorem q_X5_isInstrument {S : eM} {post : eQ} {x : Int32} {np ni : Nat} (hv : q_ok0 (mI S 14 0) np ni) (h : post (some (aI (cond (q_ix x ni) 1 0))) S) : w_X5_isInstrument [aR 13 0, aI x] S post := by
  refine e_walk (stops := [10]) 20 ?_
  show e_Run tb_X5_isInstrument post e_no 10 [some (aR 13 0), some (aI x)] [aI (mI S 14 0 1 - 1), aI 0, aI x] S 0 0
  rw [hv.2.2.2.1]
  refine e_walk (stops := [13]) 1 ?_
  refine q_X5_in ?_
  have hni := hv.2.1
  rw [q_hi (by omega), show (decide (¬ x < 0) && decide (x < nI ni)) = q_ix x ni from rfl]
  refine e_walk (stops := []) 2 ?_
  cases hz : q_ix x ni <;> rw [hz] at h <;> exact h
theorem q_X5_isTeacher {S : eM} {post : eQ} {x : Int32} (h : post (some (aI (cond (q_ix x 3) 1 0))) S) : w_X5_isTeacher [aI x] S post := by
  refine e_walk (stops := [6]) 20 ?_
  refine q_X5_in ?_
  rw [show (2 : Int32) = nI 3 - 1 by decide, q_hi (by decide), show (decide (¬ x < 0) && decide (x < nI 3)) = q_ix x 3 from rfl]
  refine e_walk (stops := []) 2 ?_
  cases hz : q_ix x 3 <;> rw [hz] at h <;> exact h
theorem q_X5_isMarch {S : eM} {post : eQ} {x : Int32} (h : post (some (aI (cond (q_ix x 4) 1 0))) S) : w_X5_isMarch [aI x] S post := by
  refine e_walk (stops := [6]) 20 ?_
  refine q_X5_in ?_
  rw [show (3 : Int32) = nI 4 - 1 by decide, q_hi (by decide), show (decide (¬ x < 0) && decide (x < nI 4)) = q_ix x 4 from rfl]
  refine e_walk (stops := []) 2 ?_
  cases hz : q_ix x 4 <;> rw [hz] at h <;> exact h
/-- what the last call threw -/
theorem q_X5_holds {S : eM} {post : eQ} {x : Int32} (h : post (some (aI (cond (decide (x = 0)) 1 0))) (sI S 13 0 8 x)) : w_X5_holds [aR 13 0, aI x] S post := by
  refine e_walk (stops := []) 20 ?_
  refine And.intro (fun c => ?_) (fun c => ?_)
  · rw [decide_eq_true (show x = 0 from c)] at h
    exact h
  · rw [decide_eq_false (show ¬ x = 0 from c)] at h
    exact h
def q_sun (v : qV) : Bool := decide (v 3 - v 3 / 7 * 7 = 6)
theorem q_X5_isSunday {S : eM} {post : eQ} (h : post (some (aI (cond (q_sun (mI S 14 0)) 1 0))) S) : w_X5_isSunday [aR 13 0] S post := by
  refine e_walk (stops := []) 20 ?_
  refine And.intro (by decide) ?_
  unfold q_sun at h
  refine And.intro (fun c => ?_) (fun c => ?_)
  · rw [decide_eq_true (show mI S 14 0 3 - mI S 14 0 3 / 7 * 7 = 6 from c)] at h
    exact h
  · rw [decide_eq_false (show ¬ mI S 14 0 3 - mI S 14 0 3 / 7 * 7 = 6 from c)] at h
    exact h
theorem q_X5_heightOf {S : eM} {post : eQ} {t : Nat} (h : post (some (aI (nI (8 + 6 * t)))) S) : w_X5_heightOf [aI (nI t)] S post := by
  refine e_walk (stops := []) 20 ?_
  show post (some (aI (nI 8 + nI 6 * nI t))) S
  rw [nI_mul, nI_add]
  exact h
def q_fee (t : Nat) : Nat := if t = 0 then 10 else if t = 1 then 25 else 60
theorem q_X5_feeOf {S : eM} {post : eQ} {t : Nat} (ht : t < 3) (h : post (some (aI (nI (q_fee t)))) S) : w_X5_feeOf [aI (nI t)] S post := by
  refine e_walk (stops := []) 20 ?_
  rcases (show t = 0 ∨ t = 1 ∨ t = 2 by omega) with rfl | rfl | rfl
  · exact And.intro (fun c => h) (fun c => absurd rfl c)
  · exact And.intro (fun c => absurd c (by decide)) (fun c => And.intro (fun c => h) (fun c => absurd rfl c))
  · exact And.intro (fun c => absurd c (by decide)) (fun c => And.intro (fun c => absurd c (by decide)) (fun c => h))
/-- why an instrument is not lent to a pupil -/
def q_whyLoan (v : qV) (i p : Nat) : Nat := if 0 < q_its v i 2 then 1 else if 0 < q_of v p 4 then 2 else if ¬ q_its v i 1 < 5 then 3 else if v 14 < q_of v p 3 then 4 else if q_of v p 0 < 3 * q_its v i 0 + 5 then 5 else 0
theorem q_X5_reasonOfLoan {S : eM} {post : eQ} {i p : Nat} (hi : i < 10) (hp : p < 10) (h : post (some (aI (nI (q_whyLoan (mI S 14 0) i p)))) S) : w_X5_reasonOfLoan [aR 13 0, aI (nI i), aI (nI p)] S post := by
  unfold q_whyLoan at h
  refine e_walk (stops := [6]) 20 ?_
  refine q_X5_its (w := 2) hi (by decide) ?_
  refine e_walk (stops := [17]) 20 ?_
  refine And.intro (fun c => ?_) (fun c => ?_)
  · rw [if_neg (Int32.not_lt.mpr c)] at h
    refine q_X5_of (w := 4) hp (by decide) ?_
    refine e_walk (stops := [27]) 20 ?_
    refine And.intro (fun c => ?_) (fun c => ?_)
    · rw [if_neg (Int32.not_lt.mpr c)] at h
      refine q_X5_canBePlayed hi ?_
      refine e_walk (stops := [38]) 20 ?_
      by_cases z : q_its (mI S 14 0) i 1 < 5
      · rw [decide_eq_true z]
        rw [if_neg (fun y => y z)] at h
        refine And.intro (fun c => absurd c (by decide)) (fun c => ?_)
        refine q_X5_of (w := 3) hp (by decide) ?_
        refine e_walk (stops := [58]) 20 ?_
        refine And.intro (fun c => ?_) (fun c => ?_)
        · rw [if_neg (Int32.not_lt.mpr c)] at h
          refine q_X5_of (w := 0) hp (by decide) ?_
          refine e_walk (stops := [65]) 20 ?_
          refine q_X5_its (w := 0) hi (by decide) ?_
          refine e_walk (stops := []) 20 ?_
          refine And.intro (fun c => ?_) (fun c => ?_)
          · rw [if_neg (Int32.not_lt.mpr c)] at h
            exact h
          · rw [if_pos (Int32.not_le.mp c)] at h
            exact h
        · rw [if_pos (Int32.not_le.mp c)] at h
          exact h
      · rw [decide_eq_false z]
        rw [if_pos z] at h
        exact And.intro (fun c => h) (fun c => absurd rfl c)
    · rw [if_pos (Int32.not_le.mp c)] at h
      exact h
  · rw [if_pos (Int32.not_le.mp c)] at h
    exact h
/-- why a teacher does not teach a pupil -/
def q_whyLesson (v : qV) (p t : Nat) : Nat := if q_plays v p = false then 1 else if q_of v p 5 = 1 then 2 else if ¬ q_of v p 2 < nI (8 + 6 * t) then 3 else if q_of v p 1 < 3 + q_its v (q_has v p - 1) 0 then 4 else 0
theorem q_X5_reasonOfLesson {S : eM} {post : eQ} {p t np ni : Nat} (hv : q_ok0 (mI S 14 0) np ni) (hp : p < np) (h : post (some (aI (nI (q_whyLesson (mI S 14 0) p t)))) S) : w_X5_reasonOfLesson [aR 13 0, aI (nI p), aI (nI t)] S post := by
  unfold q_whyLesson at h
  have hp10 : p < 10 := Nat.lt_of_lt_of_le hp hv.1
  refine e_walk (stops := [5]) 20 ?_
  refine q_X5_canPlay hv hp ?_
  refine e_walk (stops := [16]) 20 ?_
  cases z : q_plays (mI S 14 0) p with
  | false =>
    rw [if_pos z] at h
    exact And.intro (fun c => h) (fun c => absurd rfl c)
  | true =>
    rw [if_neg (by rw [z]; decide)] at h
    refine And.intro (fun c => absurd c (by decide)) (fun c => ?_)
    refine q_X5_of (w := 5) hp10 (by decide) ?_
    refine e_walk (stops := [28]) 20 ?_
    refine And.intro (fun c => ?_) (fun c => ?_)
    · rw [if_pos (show q_of (mI S 14 0) p 5 = 1 from c)] at h
      exact h
    · rw [if_neg (show ¬ q_of (mI S 14 0) p 5 = 1 from c)] at h
      refine q_X5_of (w := 2) hp10 (by decide) ?_
      refine e_walk (stops := [32]) 20 ?_
      refine q_X5_heightOf ?_
      refine e_walk (stops := [45]) 20 ?_
      refine And.intro (fun c => ?_) (fun c => ?_)
      · rw [if_neg (fun y => y c)] at h
        refine q_X5_of (w := 1) hp10 (by decide) ?_
        refine e_walk (stops := [51]) 20 ?_
        refine q_X5_kindOf hv hp (q_plays_pos z) ?_
        refine e_walk (stops := []) 20 ?_
        refine And.intro (fun c => ?_) (fun c => ?_)
        · rw [if_neg (Int32.not_lt.mpr c)] at h
          exact h
        · rw [if_pos (Int32.not_le.mp c)] at h
          exact h
      · rw [if_pos c] at h
        exact h
/-- what a march brings -/
def q_pence (v : qV) (n : Nat) : Int32 := v 15 * (4 - nI n) * cond (decide (n = 0)) 2 1
theorem q_X5_penceOf {S : eM} {post : eQ} {np ni m : Nat} (hv : q_ok0 (mI S 14 0) np ni) (hm : m < 4) (hp : ∀ S2, q_fr1 5 S S2 → (∀ j, j < 4 → mI S2 14 5 j = q_pl (mI S 14 0) m np j) → post (some (aI (q_pence (mI S 14 0) (q_sh (mI S 14 0) m np 4)))) S2) : w_X5_penceOf [aR 13 0, aI (nI m)] S post := by
  refine e_walk (stops := [5]) 20 ?_
  refine q_X5_lineUp hv hm (fun S2 h1 h2 => ?_)
  have h3 := hp S2 h1 h2
  have e : mI S2 14 0 15 = mI S 14 0 15 := by rw [h1.1 14 0 (by decide)]
  have hb : ∀ k, q_sh (mI S 14 0) m np k ≤ k := by
    intro k
    induction k with
    | zero => exact Nat.le_refl _
    | succ k ih =>
      rw [q_sh]
      cases decide (q_pl (mI S 14 0) m np k = -1) with
      | true => exact Nat.succ_le_succ ih
      | false => exact Nat.le_succ_of_le ih
  have hb4 := hb 4
  generalize hn : q_sh (mI S 14 0) m np 4 = n at h3 hb4 ⊢
  unfold q_pence at h3
  rw [← e] at h3
  refine e_walk (stops := []) 30 ?_
  refine And.intro (fun c => ?_) (fun c => ?_)
  · have : n = 0 := Nat.eq_zero_of_not_pos (fun z => nI_ne0 z (by omega) c)
    rw [decide_eq_true this] at h3
    exact h3
  · have : ¬ n = 0 := fun z => c (by rw [z]; rfl)
    rw [decide_eq_false this] at h3
    exact h3
theorem q_ue {f : Nat → Int32} {k : Nat} {x : Int32} : upd f k x k = x := if_pos rfl
theorem q_un {f : Nat → Int32} {k j : Nat} {x : Int32} (h : j ≠ k) : upd f k x j = f j := if_neg h
theorem q_of_up {v : qV} {k p w : Nat} {x : Int32} (h : k ≠ 16 + 7 * p + w) : q_of (upd v k x) p w = q_of v p w := q_un (fun z => h z.symm)
theorem q_ok0.upd {v : qV} {np ni k : Nat} {x : Int32} (h : q_ok0 v np ni) (hk : 2 ≤ k) (hh : ∀ p, p < 10 → k ≠ 16 + 7 * p + 4) : q_ok0 (upd v k x) np ni := by
  obtain ⟨h1, h2, h3, h4, h5⟩ := h
  refine ⟨h1, h2, by rw [q_un (by omega)]; exact h3, by rw [q_un (by omega)]; exact h4, fun p hp => ?_⟩
  obtain ⟨n, n1, n2⟩ := h5 p hp
  exact ⟨n, n1, by rw [q_of_up (hh p (by omega))]; exact n2⟩
theorem q_has_upd {v : qV} {k p : Nat} {x : Int32} (hh : k ≠ 16 + 7 * p + 4) : q_has (upd v k x) p = q_has v p := by
  unfold q_has
  rw [show q_of (upd v k x) p 4 = q_of v p 4 from q_un (fun z => hh z.symm)]
/-- dents come -/
def q_dn (v : qV) (i : Nat) (more : Int32) : Int32 := if 9 < q_its v i 1 + more then 9 else q_its v i 1 + more
def q_dents (v : qV) (i : Nat) (more : Int32) : qV := upd (upd v (86 + 5 * i + 1) (q_dn v i more)) (86 + 5 * i + 4) (if 0 < q_its v i 2 then q_its v i 4 + q_dn v i more - q_its v i 1 else 0)
theorem q_X5_dents {S : eM} {post : eQ} {i : Nat} {more : Int32} (hi : i < 10) (h : ∀ S2, q_fr1 0 S S2 → mI S2 14 0 = q_dents (mI S 14 0) i more → post none S2) : w_X5_dents [aR 13 0, aI (nI i), aI more] S post := by
  have key : ∀ (now : Int32), now = q_dn (mI S 14 0) i more → e_Run tb_X5_dents post e_no 23 [some (aR 13 0), some (aI (nI i)), some (aI more), some (aI (q_its (mI S 14 0) i 1)), none] [aI now] S 0 0 := by
    intro now hn
    refine e_walk (stops := [33]) 20 ?_
    refine q_X5_lay (w := 1) hi (by decide) ?_
    have e2 : q_its (mI (sI S 14 0 (86 + 5 * i + 1) now) 14 0) i 2 = q_its (mI S 14 0) i 2 := by rw [q_its, e_updI]; exact q_un (by omega)
    have e4 : q_its (mI (sI S 14 0 (86 + 5 * i + 1) now) 14 0) i 4 = q_its (mI S 14 0) i 4 := by rw [q_its, e_updI]; exact q_un (by omega)
    have hh := h
    unfold q_dents at h
    rw [← hn] at h
    refine e_walk (stops := [42]) 20 ?_
    refine q_X5_its (w := 2) hi (by decide) ?_
    rw [e2]
    refine e_walk (stops := [51, 63]) 20 ?_
    refine And.intro (fun c => ?_) (fun c => ?_)
    · rw [if_neg (Int32.not_lt.mpr c)] at h
      refine q_X5_lay (w := 4) hi (by decide) ?_
      refine e_walk (stops := []) 3 ?_
      exact h _ q_fr1.rf.set.set (by rw [e_updI, e_updI])
    · rw [if_pos (Int32.not_le.mp c)] at h
      refine q_X5_its (w := 4) hi (by decide) ?_
      rw [e4]
      refine e_walk (stops := [63]) 20 ?_
      refine q_X5_lay (w := 4) hi (by decide) ?_
      refine e_walk (stops := []) 3 ?_
      exact h _ q_fr1.rf.set.set (by rw [e_updI, e_updI])
  refine e_walk (stops := [6]) 20 ?_
  refine q_X5_its (w := 1) hi (by decide) ?_
  refine e_walk (stops := [23]) 20 ?_
  refine And.intro (fun c => ?_) (fun c => ?_)
  · exact key _ (by unfold q_dn; rw [if_neg (Int32.not_lt.mpr c)])
  · exact key _ (by unfold q_dn; rw [if_pos (Int32.not_le.mp c)])
def q_mend (v : qV) (i : Nat) : qV := upd (upd (upd v (86 + 5 * i + 1) 0) 12 (v 12 + 15 * q_its v i 1)) 8 (v 8 - 15 * q_its v i 1)
theorem q_X5_doMend {S : eM} {post : eQ} {i : Nat} (hi : i < 10) (h : ∀ S2, q_fr1 0 S S2 → mI S2 14 0 = q_mend (mI S 14 0) i → post (some (aI (15 * q_its (mI S 14 0) i 1))) S2) : w_X5_doMend [aR 13 0, aI (nI i)] S post := by
  refine e_walk (stops := [8]) 20 ?_
  refine q_X5_its (w := 1) hi (by decide) ?_
  refine e_walk (stops := [17]) 20 ?_
  refine q_X5_lay (w := 1) hi (by decide) ?_
  refine e_walk (stops := []) 40 ?_
  refine And.intro (show vp_in 12 146 from q_in (n := 12) rfl (by decide) (by decide)) (And.intro (show vp_in 12 146 from q_in (n := 12) rfl (by decide) (by decide)) (And.intro (show vp_in 8 146 from q_in (n := 8) rfl (by decide) (by decide)) (And.intro (show vp_in 8 146 from q_in (n := 8) rfl (by decide) (by decide)) ?_)))
  refine h _ q_fr1.rf.set.set.set ?_
  rw [e_updI, e_updI, e_updI]
  unfold q_mend
  rw [show ((8 : Int32)).toNatClampNeg = 8 by decide, show ((12 : Int32)).toNatClampNeg = 12 by decide]
  show upd (upd (upd (mI S 14 0) (86 + 5 * i + 1) 0) 12 (upd (mI S 14 0) (86 + 5 * i + 1) 0 12 + 15 * q_its (mI S 14 0) i 1)) 8 (upd (upd (mI S 14 0) (86 + 5 * i + 1) 0) 12 (upd (mI S 14 0) (86 + 5 * i + 1) 0 12 + 15 * q_its (mI S 14 0) i 1) 8 - 15 * q_its (mI S 14 0) i 1) = _
  rw [q_un (show (8 : Nat) ≠ 12 by decide), q_un (show (8 : Nat) ≠ 86 + 5 * i + 1 by omega), q_un (show (12 : Nat) ≠ 86 + 5 * i + 1 by omega)]
def q_lend (v : qV) (nl i p : Nat) : qV := upd (upd (upd (upd (upd v (86 + 5 * i + 2) (nI (p + 1))) (86 + 5 * i + 4) 0) (16 + 7 * p + 4) (nI (i + 1))) (136 + nl) (nI i)) 2 (nI (nl + 1))
theorem q_X5_doLend {S : eM} {post : eQ} {i p nl : Nat} (hi : i < 10) (hp : p < 10) (hl : nl < 10) (hv : mI S 14 0 2 = nI nl) (h : ∀ S2, q_fr1 0 S S2 → mI S2 14 0 = q_lend (mI S 14 0) nl i p → post (some (aI (nI (nl + 1)))) S2) : w_X5_doLend [aR 13 0, aI (nI i), aI (nI p)] S post := by
  refine e_walk (stops := [9]) 20 ?_
  refine q_X5_lay (w := 2) hi (by decide) ?_
  refine e_walk (stops := [16]) 20 ?_
  refine q_X5_lay (w := 4) hi (by decide) ?_
  refine e_walk (stops := [25]) 20 ?_
  refine q_X5_put (w := 4) hp (by decide) ?_
  show e_Run tb_X5_doLend post e_no 25 [some (aR 13 0), some (aI (nI i)), some (aI (nI p))] [] (sI (sI (sI S 14 0 (86 + 5 * i + 2) (nI p + 1)) 14 0 (86 + 5 * i + 4) 0) 14 0 (16 + 7 * p + 4) (nI i + 1)) 0 0
  rw [nI_1, nI_1]
  generalize hS : sI (sI (sI S 14 0 (86 + 5 * i + 2) (nI (p + 1))) 14 0 (86 + 5 * i + 4) 0) 14 0 (16 + 7 * p + 4) (nI (i + 1)) = S1
  have e1 : mI S1 14 0 = upd (upd (upd (mI S 14 0) (86 + 5 * i + 2) (nI (p + 1))) (86 + 5 * i + 4) 0) (16 + 7 * p + 4) (nI (i + 1)) := by rw [← hS, e_updI, e_updI, e_updI]
  have f1 : q_fr1 0 S S1 := by rw [← hS]; exact q_fr1.rf.set.set.set
  have e2 : mI S1 14 0 2 = nI nl := by rw [e1, q_un (by omega), q_un (by omega), q_un (by omega)]; exact hv
  have e3 : (nI 136 + nI nl).toNatClampNeg = 136 + nl := by rw [nI_add, nI_clamp (by omega)]
  refine e_walk (stops := [38]) 20 ?_
  show e_Run tb_X5_doLend post e_no 38 [some (aR 13 0), some (aI (nI i)), some (aI (nI p))] [aI (mI S1 14 0 2), aI (nI 136), aR 14 0] S1 0 0
  rw [e2]
  refine e_walk (stops := [41]) 20 ?_
  refine And.intro (q_in (nI_add 136 nl) (show 136 + nl < 146 by omega) (by decide)) ?_
  show e_Run tb_X5_doLend post e_no 41 [some (aR 13 0), some (aI (nI i)), some (aI (nI p))] [] (sI S1 14 0 (nI 136 + nI nl).toNatClampNeg (nI i)) 0 0
  rw [e3]
  generalize hS3 : sI S1 14 0 (136 + nl) (nI i) = S3
  have e5 : mI S3 14 0 2 = nI nl := by rw [← hS3, e_updI, q_un (by omega)]; exact e2
  refine e_walk (stops := []) 40 ?_
  refine And.intro (show vp_in 2 146 from q_in (n := 2) rfl (by decide) (by decide)) (And.intro (show vp_in 2 146 from q_in (n := 2) rfl (by decide) (by decide)) ?_)
  show post (some (aI (mI (sI S3 14 0 2 (mI S3 14 0 2 + 1)) 14 0 2))) (sI S3 14 0 2 (mI S3 14 0 2 + 1))
  rw [e5, nI_1, e_updI, q_ue]
  refine h _ (by rw [← hS3]; exact f1.set.set) ?_
  rw [e_updI, ← hS3, e_updI, e1]
  rfl
def q_teach (v : qV) (p t : Nat) : qV := upd (upd (upd (upd (upd (upd v (16 + 7 * p + 2) (q_of v p 2 + 1)) (16 + 7 * p + 1) (q_of v p 1 - 3 - q_its v (q_has v p - 1) 0)) (16 + 7 * p + 5) 1) 5 (v 5 + 1)) 11 (v 11 + nI (q_fee t))) 8 (v 8 - nI (q_fee t))
theorem q_X5_doTeach {S : eM} {post : eQ} {p t np ni : Nat} (hv : q_ok0 (mI S 14 0) np ni) (hp : p < np) (ht : t < 3) (h0 : 0 < q_has (mI S 14 0) p) (h : ∀ S2, q_fr1 0 S S2 → mI S2 14 0 = q_teach (mI S 14 0) p t → post (some (aI (q_of (mI S 14 0) p 2 + 1))) S2) : w_X5_doTeach [aR 13 0, aI (nI p), aI (nI t)] S post := by
  have hp10 : p < 10 := Nat.lt_of_lt_of_le hp hv.1
  obtain ⟨g1, g2, g3⟩ := hv.has hp
  refine e_walk (stops := [9]) 20 ?_
  refine q_X5_of (w := 2) hp10 (by decide) ?_
  refine e_walk (stops := [14]) 20 ?_
  refine q_X5_put (w := 2) hp10 (by decide) ?_
  generalize hS1 : sI S 14 0 (16 + 7 * p + 2) (q_of (mI S 14 0) p 2 + 1) = S1
  have f1 : q_fr1 0 S S1 := by rw [← hS1]; exact q_fr1.rf.set
  have e1 : mI S1 14 0 = upd (mI S 14 0) (16 + 7 * p + 2) (q_of (mI S 14 0) p 2 + 1) := by rw [← hS1, e_updI]
  have v1 : q_ok0 (mI S1 14 0) np ni := by rw [e1]; exact hv.upd (by omega) (fun _ _ => by omega)
  have b1 : q_of (mI S1 14 0) p 1 = q_of (mI S 14 0) p 1 := by rw [q_of, e1]; exact q_un (by omega)
  have k1 : q_has (mI S1 14 0) p = q_has (mI S 14 0) p := by rw [e1]; exact q_has_upd (by omega)
  have c1 : q_its (mI S1 14 0) (q_has (mI S 14 0) p - 1) 0 = q_its (mI S 14 0) (q_has (mI S 14 0) p - 1) 0 := by rw [q_its, e1]; exact q_un (by omega)
  refine e_walk (stops := [23]) 20 ?_
  refine q_X5_of (w := 1) hp10 (by decide) ?_
  rw [b1]
  refine e_walk (stops := [30]) 20 ?_
  refine q_X5_kindOf v1 hp (by rw [k1]; exact h0) ?_
  rw [k1, c1]
  refine e_walk (stops := [34]) 20 ?_
  refine q_X5_put (w := 1) hp10 (by decide) ?_
  refine e_walk (stops := [41]) 20 ?_
  refine q_X5_put (w := 5) hp10 (by decide) ?_
  have c5 : ((5 : Int32)).toNatClampNeg = 5 := by decide
  have c11 : ((11 : Int32)).toNatClampNeg = 11 := by decide
  have c8 : ((8 : Int32)).toNatClampNeg = 8 := by decide
  refine e_walk (stops := [63]) 40 ?_
  refine And.intro (show vp_in 5 146 from q_in (n := 5) rfl (by decide) (by decide)) (And.intro (show vp_in 5 146 from q_in (n := 5) rfl (by decide) (by decide)) (And.intro (show vp_in 11 146 from q_in (n := 11) rfl (by decide) (by decide)) ?_))
  refine q_X5_feeOf ht ?_
  refine e_walk (stops := [77]) 40 ?_
  refine And.intro (show vp_in 11 146 from q_in (n := 11) rfl (by decide) (by decide)) (And.intro (show vp_in 8 146 from q_in (n := 8) rfl (by decide) (by decide)) ?_)
  refine q_X5_feeOf ht ?_
  refine e_walk (stops := [85]) 40 ?_
  refine And.intro (show vp_in 8 146 from q_in (n := 8) rfl (by decide) (by decide)) ?_
  refine q_X5_of (w := 2) hp10 (by decide) ?_
  refine e_walk (stops := []) 3 ?_
  rw [c5, c11, c8]
  generalize hS2 : sI (sI S1 14 0 (16 + 7 * p + 1) (q_of (mI S 14 0) p 1 - 3 - q_its (mI S 14 0) (q_has (mI S 14 0) p - 1) 0)) 14 0 (16 + 7 * p + 5) 1 = S2
  have e2 : mI S2 14 0 = upd (upd (upd (mI S 14 0) (16 + 7 * p + 2) (q_of (mI S 14 0) p 2 + 1)) (16 + 7 * p + 1) (q_of (mI S 14 0) p 1 - 3 - q_its (mI S 14 0) (q_has (mI S 14 0) p - 1) 0)) (16 + 7 * p + 5) 1 := by rw [← hS2, e_updI, e_updI, e1]
  have f2 : q_fr1 0 S S2 := by rw [← hS2]; exact f1.set.set
  have r5 : mI S2 14 0 5 = mI S 14 0 5 := by rw [e2, q_un (by omega), q_un (by omega), q_un (by omega)]
  generalize hS3 : sI S2 14 0 5 (mI S2 14 0 5 + 1) = S3
  have e3 : mI S3 14 0 = upd (mI S2 14 0) 5 (mI S 14 0 5 + 1) := by rw [← hS3, e_updI, r5]
  have r11 : mI S3 14 0 11 = mI S 14 0 11 := by rw [e3, q_un (by omega), e2, q_un (by omega), q_un (by omega), q_un (by omega)]
  generalize hS4 : sI S3 14 0 11 (mI S3 14 0 11 + nI (q_fee t)) = S4
  have e4 : mI S4 14 0 = upd (mI S3 14 0) 11 (mI S 14 0 11 + nI (q_fee t)) := by rw [← hS4, e_updI, r11]
  have r8 : mI S4 14 0 8 = mI S 14 0 8 := by rw [e4, q_un (by omega), e3, q_un (by omega), e2, q_un (by omega), q_un (by omega), q_un (by omega)]
  have r2 : q_of (mI (sI S4 14 0 8 (mI S4 14 0 8 - nI (q_fee t))) 14 0) p 2 = q_of (mI S 14 0) p 2 + 1 := by rw [q_of, e_updI, q_un (by omega), e4, q_un (by omega), e3, q_un (by omega), e2, q_un (by omega), q_un (by omega), q_ue]
  show post (some (aI (q_of (mI (sI S4 14 0 8 (mI S4 14 0 8 - nI (q_fee t))) 14 0) p 2))) (sI S4 14 0 8 (mI S4 14 0 8 - nI (q_fee t)))
  rw [r2]
  refine h _ (by rw [← hS4, ← hS3]; exact f2.set.set.set) ?_
  rw [e_updI, r8, e4, e3, e2]
  rfl
-- a loan ends
def q_back0 (v : qV) (i p : Nat) : qV := upd (upd (upd (upd v (16 + 7 * p + 3) (q_of v p 3 + v 13 * q_its v i 4)) (16 + 7 * p + 4) 0) (86 + 5 * i + 2) 0) (86 + 5 * i + 4) 0
def q_bk (i : Nat) (u : qV) : Nat → qV × Nat
  | 0 => (u, 0)
  | k + 1 => (upd (q_bk i u k).1 (136 + (q_bk i u k).2) ((q_bk i u k).1 (136 + k)), cond (decide ((q_bk i u k).1 (136 + k) = nI i)) (q_bk i u k).2 ((q_bk i u k).2 + 1))
def q_back (v : qV) (nl i p : Nat) : qV := upd (q_bk i (q_back0 v i p) nl).1 2 (nI (q_bk i (q_back0 v i p) nl).2)
theorem q_bk_le (i : Nat) (u : qV) : ∀ k, (q_bk i u k).2 ≤ k ∧ ∀ j, j < 136 → (q_bk i u k).1 j = u j
  | 0 => ⟨Nat.le_refl _, fun _ _ => rfl⟩
  | k + 1 => by
    obtain ⟨h1, h2⟩ := q_bk_le i u k
    rw [q_bk]
    refine ⟨?_, fun j hj => ?_⟩
    · show cond _ _ _ ≤ k + 1
      cases decide ((q_bk i u k).1 (136 + k) = nI i) with
      | true => exact Nat.le_succ_of_le h1
      | false => exact Nat.succ_le_succ h1
    · show upd _ _ _ j = _
      rw [q_un (by omega)]
      exact h2 j hj
theorem q_X5_doBack {S : eM} {post : eQ} {i p nl : Nat} (hi : i < 10) (hp : p < 10) (hl : nl ≤ 10) (hv2 : mI S 14 0 2 = nI nl) (hlt : q_its (mI S 14 0) i 2 = nI (p + 1)) (h : ∀ S2, q_fr1 0 S S2 → mI S2 14 0 = q_back (mI S 14 0) nl i p → post (some (aI (mI S 14 0 13 * q_its (mI S 14 0) i 4))) S2) : w_X5_doBack [aR 13 0, aI (nI i)] S post := by
  refine e_walk (stops := [6]) 20 ?_
  refine q_X5_its (w := 2) hi (by decide) ?_
  rw [hlt]
  refine e_walk (stops := [9]) 20 ?_
  show e_Run tb_X5_doBack post e_no 9 [some (aR 13 0), some (aI (nI i)), some (aI (nI (p + 1) - 1)), none, none, none] [] S 0 0
  rw [nI_pred]
  refine e_walk (stops := [22]) 20 ?_
  refine q_X5_its (w := 4) hi (by decide) ?_
  refine e_walk (stops := [33]) 20 ?_
  refine q_X5_of (w := 3) hp (by decide) ?_
  refine e_walk (stops := [38]) 20 ?_
  refine q_X5_put (w := 3) hp (by decide) ?_
  refine e_walk (stops := [45]) 20 ?_
  refine q_X5_put (w := 4) hp (by decide) ?_
  refine e_walk (stops := [52]) 20 ?_
  refine q_X5_lay (w := 2) hi (by decide) ?_
  refine e_walk (stops := [59]) 20 ?_
  refine q_X5_lay (w := 4) hi (by decide) ?_
  generalize hS1 : sI (sI (sI (sI S 14 0 (16 + 7 * p + 3) ((fun a b => a + b) (q_of (mI S 14 0) p 3) ((fun a b => a * b) (mI S 14 0 13) (q_its (mI S 14 0) i 4)))) 14 0 (16 + 7 * p + 4) 0) 14 0 (86 + 5 * i + 2) 0) 14 0 (86 + 5 * i + 4) 0 = S1
  have e1 : mI S1 14 0 = q_back0 (mI S 14 0) i p := by rw [← hS1, e_updI, e_updI, e_updI, e_updI]; rfl
  have f1 : q_fr1 0 S S1 := by rw [← hS1]; exact q_fr1.rf.set.set.set.set
  have loop : ∀ d k, k + d = nl → ∀ S2, q_fr1 0 S S2 → mI S2 14 0 = (q_bk i (q_back0 (mI S 14 0) i p) k).1 → e_Run tb_X5_doBack post e_no 65 [some (aR 13 0), some (aI (nI i)), some (aI (nI p)), some (aI (mI S 14 0 13 * q_its (mI S 14 0) i 4)), some (aI (nI (q_bk i (q_back0 (mI S 14 0) i p) k).2)), some (aI (nI k))] [] S2 0 0 := by
    intro d
    induction d with
    | zero =>
      intro k hk S2 f2 e2
      obtain rfl : k = nl := by omega
      obtain ⟨b1, b2⟩ := q_bk_le i (q_back0 (mI S 14 0) i p) k
      have r2 : mI S2 14 0 2 = nI k := by rw [e2, b2 2 (by decide), q_back0, q_un (by omega), q_un (by omega), q_un (by omega), q_un (by omega)]; exact hv2
      refine e_walk (stops := []) 30 ?_
      refine And.intro (fun c => ?_) (fun c => absurd (show mI S2 14 0 2 ≤ nI k by rw [r2]; exact nI_le (Nat.le_refl _) (by omega)) c)
      refine And.intro (show vp_in 2 146 from q_in (n := 2) rfl (by decide) (by decide)) ?_
      exact h _ f2.set (by rw [e_updI, e2]; rfl)
    | succ d ih =>
      intro k hk S2 f2 e2
      obtain ⟨b1, b2⟩ := q_bk_le i (q_back0 (mI S 14 0) i p) k
      have r2 : mI S2 14 0 2 = nI nl := by rw [e2, b2 2 (by decide), q_back0, q_un (by omega), q_un (by omega), q_un (by omega), q_un (by omega)]; exact hv2
      have ih := ih (k + 1) (by omega)
      rw [q_bk] at ih
      rw [← e2] at ih
      generalize (q_bk i (q_back0 (mI S 14 0) i p) k).2 = t at b1 ih ⊢
      have c1 : (nI 136 + nI t).toNatClampNeg = 136 + t := q_cl (nI_add 136 t) (by omega)
      have c2 : (nI 136 + nI k).toNatClampNeg = 136 + k := q_cl (nI_add 136 k) (by omega)
      refine e_walk (stops := [98]) 30 ?_
      refine And.intro (fun c => absurd (show mI S2 14 0 2 ≤ nI k from c) (by rw [r2]; exact nI_ge (by omega) (by omega))) (fun c => ?_)
      refine And.intro (q_in (nI_add 136 k) (show 136 + k < 146 by omega) (by decide)) ?_
      refine And.intro (q_in (nI_add 136 t) (show 136 + t < 146 by omega) (by decide)) ?_
      show e_Run tb_X5_doBack post e_no 98 [some (aR 13 0), some (aI (nI i)), some (aI (nI p)), some (aI (mI S 14 0 13 * q_its (mI S 14 0) i 4)), some (aI (nI t)), some (aI (nI k))] [] (sI S2 14 0 (nI 136 + nI t).toNatClampNeg (mI S2 14 0 (nI 136 + nI k).toNatClampNeg)) 0 0
      rw [c1, c2]
      generalize hS3 : sI S2 14 0 (136 + t) (mI S2 14 0 (136 + k)) = S3
      have e3 : mI S3 14 0 = upd (mI S2 14 0) (136 + t) (mI S2 14 0 (136 + k)) := by rw [← hS3, e_updI]
      have f3 : q_fr1 0 S S3 := by rw [← hS3]; exact f2.set
      have e4 : mI S3 14 0 (nI 136 + nI t).toNatClampNeg = mI S2 14 0 (136 + k) := by rw [c1, e3, q_ue]
      have ih := ih S3 f3 e3
      refine e_walk (stops := [111]) 30 ?_
      refine And.intro (q_in (nI_add 136 t) (show 136 + t < 146 by omega) (by decide)) ?_
      show e_Run tb_X5_doBack post e_no 111 [some (aR 13 0), some (aI (nI i)), some (aI (nI p)), some (aI (mI S 14 0 13 * q_its (mI S 14 0) i 4)), some (aI (nI t)), some (aI (nI k))] [aI (mI S3 14 0 (nI 136 + nI t).toNatClampNeg), aI (nI t)] S3 0 0
      rw [e4]
      refine e_walk (stops := [65]) 30 ?_
      refine And.intro (fun c => ?_) (fun c => ?_)
      · rw [decide_eq_true (show mI S2 14 0 (136 + k) = nI i from c)] at ih
        show e_Run tb_X5_doBack post e_no 65 [some (aR 13 0), some (aI (nI i)), some (aI (nI p)), some (aI (mI S 14 0 13 * q_its (mI S 14 0) i 4)), some (aI (nI t + nI 0)), some (aI (nI k + 1))] [] S3 0 0
        rw [nI_add, nI_1]
        exact ih
      · rw [decide_eq_false (show ¬ mI S2 14 0 (136 + k) = nI i from c)] at ih
        show e_Run tb_X5_doBack post e_no 65 [some (aR 13 0), some (aI (nI i)), some (aI (nI p)), some (aI (mI S 14 0 13 * q_its (mI S 14 0) i 4)), some (aI (nI t + 1)), some (aI (nI k + 1))] [] S3 0 0
        rw [nI_1, nI_1]
        exact ih
  refine e_walk (stops := [65]) 10 ?_
  exact loop nl 0 (by omega) S1 f1 e1
-- days pass
def q_ps (v : qV) (d : Int32) : Nat → qV
  | 0 => upd (upd v 3 (v 3 + d)) 4 0
  | p + 1 => upd (upd (q_ps v d p) (16 + 7 * p + 1) (if q_of v p 0 < q_of v p 1 + 4 * d then q_of v p 0 else q_of v p 1 + 4 * d)) (16 + 7 * p + 5) 0
theorem q_ps_at (v : qV) (d : Int32) : ∀ n j, (j = 0 ∨ j = 1 ∨ j = 2 ∨ (5 ≤ j ∧ j < 16) ∨ 16 + 7 * n ≤ j ∨ ∃ p w, w < 7 ∧ w ≠ 1 ∧ w ≠ 5 ∧ j = 16 + 7 * p + w) → q_ps v d n j = v j
  | 0, j, h => by
    rw [q_ps, q_un (by omega), q_un (by omega)]
  | n + 1, j, h => by
    have hn : j ≠ 16 + 7 * n + 5 ∧ j ≠ 16 + 7 * n + 1 := by
      rcases h with h | h | h | h | h | ⟨p, w, h1, h2, h3, h4⟩
      · omega
      · omega
      · omega
      · omega
      · omega
      · omega
    rw [q_ps, q_un hn.1, q_un hn.2]
    refine q_ps_at v d n j ?_
    rcases h with h | h | h | h | h | h
    · exact Or.inl h
    · exact Or.inr (Or.inl h)
    · exact Or.inr (Or.inr (Or.inl h))
    · exact Or.inr (Or.inr (Or.inr (Or.inl h)))
    · exact Or.inr (Or.inr (Or.inr (Or.inr (Or.inl (by omega)))))
    · exact Or.inr (Or.inr (Or.inr (Or.inr (Or.inr h))))
theorem q_X5_doPass {S : eM} {post : eQ} {np ni : Nat} {d : Int32} (hv : q_ok0 (mI S 14 0) np ni) (h : ∀ S2, q_fr1 0 S S2 → mI S2 14 0 = q_ps (mI S 14 0) d np → post (some (aI (mI S 14 0 3 + d))) S2) : w_X5_doPass [aR 13 0, aI d] S post := by
  have hnp := hv.1
  have q3 : ∀ n, q_ps (mI S 14 0) d n 3 = mI S 14 0 3 + d := by
    intro n
    induction n with
    | zero => rw [q_ps, q_un (by decide), q_ue]
    | succ n ih => rw [q_ps, q_un (by omega), q_un (by omega)]; exact ih
  have loop : ∀ e n, n + e = np → ∀ S2, q_fr1 0 S S2 → mI S2 14 0 = q_ps (mI S 14 0) d n → ∀ l3, e_Run tb_X5_doPass post e_no 19 [some (aR 13 0), some (aI d), some (aI (nI n)), l3] [] S2 0 0 := by
    intro e
    induction e with
    | zero =>
      intro n hn S2 f2 e2 l3
      obtain rfl : n = np := by omega
      have r0 : mI S2 14 0 0 = nI n := by rw [e2, q_ps_at _ _ _ _ (Or.inl rfl)]; exact hv.2.2.1
      have r3 : mI S2 14 0 3 = mI S 14 0 3 + d := by rw [e2, q3]
      refine e_walk (stops := [79]) 30 ?_
      refine And.intro (fun c => ?_) (fun c => absurd (show mI S2 14 0 0 ≤ nI n by rw [r0]; exact nI_le (Nat.le_refl _) (by omega)) c)
      refine e_walk (stops := []) 30 ?_
      show post (some (aI (mI S2 14 0 3))) S2
      rw [r3]
      exact h S2 f2 e2
    | succ e ih =>
      intro n hn S2 f2 e2 l3
      have hn10 : n < 10 := by omega
      have r0 : mI S2 14 0 0 = nI np := by rw [e2, q_ps_at _ _ _ _ (Or.inl rfl)]; exact hv.2.2.1
      have o0 : q_of (mI S2 14 0) n 0 = q_of (mI S 14 0) n 0 := by rw [q_of, e2]; exact q_ps_at _ _ _ _ (Or.inr (Or.inr (Or.inr (Or.inr (Or.inl (by omega))))))
      have o1 : q_of (mI S2 14 0) n 1 = q_of (mI S 14 0) n 1 := by rw [q_of, e2]; exact q_ps_at _ _ _ _ (Or.inr (Or.inr (Or.inr (Or.inr (Or.inl (by omega))))))
      have fin : ∀ x l3, x = (if q_of (mI S 14 0) n 0 < q_of (mI S 14 0) n 1 + 4 * d then q_of (mI S 14 0) n 0 else q_of (mI S 14 0) n 1 + 4 * d) → e_Run tb_X5_doPass post e_no 63 [some (aR 13 0), some (aI d), some (aI (nI n)), l3] [aI x, aI 1, aI (nI n), aR 13 0] S2 0 0 := by
        intro x l3 hx
        refine e_walk (stops := [66]) 30 ?_
        refine q_X5_put (w := 1) hn10 (by decide) ?_
        refine e_walk (stops := [73]) 30 ?_
        refine q_X5_put (w := 5) hn10 (by decide) ?_
        refine e_walk (stops := [19]) 30 ?_
        show e_Run tb_X5_doPass post e_no 19 [some (aR 13 0), some (aI d), some (aI (nI n + 1)), l3] [] (sI (sI S2 14 0 (16 + 7 * n + 1) x) 14 0 (16 + 7 * n + 5) 0) 0 0
        rw [nI_1]
        exact ih (n + 1) (by omega) _ f2.set.set (by rw [e_updI, e_updI, e2, hx]; rfl) _
      refine e_walk (stops := [35]) 30 ?_
      refine And.intro (fun c => absurd (show mI S2 14 0 0 ≤ nI n from c) (by rw [r0]; exact nI_ge (by omega) (by omega))) (fun c => ?_)
      refine q_X5_of (w := 1) hn10 (by decide) ?_
      rw [o1]
      refine e_walk (stops := [50]) 30 ?_
      refine q_X5_of (w := 0) hn10 (by decide) ?_
      rw [o0]
      refine e_walk (stops := [59, 63]) 30 ?_
      refine And.intro (fun c => ?_) (fun c => ?_)
      · exact fin _ _ (by rw [if_neg (Int32.not_lt.mpr c)])
      · refine q_X5_of (w := 0) hn10 (by decide) ?_
        rw [o0]
        refine e_walk (stops := [63]) 30 ?_
        exact fin _ _ (by rw [if_pos (Int32.not_le.mp c)])
  have c3 : ((3 : Int32)).toNatClampNeg = 3 := by decide
  have c4 : ((4 : Int32)).toNatClampNeg = 4 := by decide
  refine e_walk (stops := [19]) 30 ?_
  refine And.intro (show vp_in 3 146 from q_in (n := 3) rfl (by decide) (by decide)) (And.intro (show vp_in 3 146 from q_in (n := 3) rfl (by decide) (by decide)) (And.intro (show vp_in 4 146 from q_in (n := 4) rfl (by decide) (by decide)) ?_))
  show e_Run tb_X5_doPass post e_no 19 [some (aR 13 0), some (aI d), some (aI (nI 0)), none] [] (sI (sI S 14 0 (3 : Int32).toNatClampNeg (mI S 14 0 (3 : Int32).toNatClampNeg + d)) 14 0 (4 : Int32).toNatClampNeg 0) 0 0
  rw [c3, c4]
  exact loop np 0 (by omega) _ q_fr1.rf.set.set (by rw [e_updI, e_updI]; rfl) _
-- what undo goes back to
def q_sv (sv : Nat → qV) (sn : Nat) (v : qV) : Nat → qV := fun k => if k < min sn 5 then sv (if sn = 6 then k + 1 else k) else v
def q_frs (S S2 : eM) : Prop := (∀ k i j, ¬ (k = 13 ∧ i = 0 ∧ j = 2) → ¬ (k = 14 ∧ i = 1) → mI S2 k i j = mI S k i j) ∧ mR S2 = mR S ∧ mL S2 = mL S
theorem q_X5_save {S : eM} {post : eQ} {sn : Nat} {sv : Nat → qV} (hs : mI S 13 0 2 = nI sn) (hsn : sn ≤ 6) (hsv : ∀ k, k < sn → ∀ j, j < 146 → mI S 14 1 (146 * k + j) = sv k j) (h : ∀ S2, q_frs S S2 → mI S2 13 0 2 = nI (min sn 5 + 1) → (∀ k, k < min sn 5 + 1 → ∀ j, j < 146 → mI S2 14 1 (146 * k + j) = q_sv sv sn (mI S 14 0) k j) → post none S2) : w_X5_save [aR 13 0] S post := by
  have fin : ∀ S1 (l1 : Option eV), q_frs S S1 → mI S1 13 0 2 = nI (min sn 5) → (∀ k, k < min sn 5 → ∀ j, j < 146 → mI S1 14 1 (146 * k + j) = sv (if sn = 6 then k + 1 else k) j) → e_Run tb_X5_save post e_no 50 [some (aR 13 0), l1] [] S1 0 0 := by
    intro S1 l1 f1 h2 h3
    have hm : min sn 5 ≤ 5 := Nat.min_le_right _ _
    generalize hmn : min sn 5 = n at *
    refine e_walk (stops := [66]) 30 ?_
    show e_Run tb_X5_save post e_no 66 [some (aR 13 0), l1] [aI (mI S1 13 0 2), aI (nI 146), aR 14 1, aI (nI 0), aR 14 0] S1 0 0
    rw [h2]
    refine e_walk (stops := [67]) 1 ?_
    show e_Run tb_X5_save post e_no 67 [some (aR 13 0), l1] [aI (nI 146 * nI n), aR 14 1, aI (nI 0), aR 14 0] S1 0 0
    rw [nI_mul]
    refine e_walk (stops := [70]) 1 ?_
    refine q_X5_copy (x := 0) (y := 1) (f := 0) (t := 146 * n) (by decide) (show 146 * n + 146 ≤ 876 by omega) (by decide) (by decide) (by omega) (fun S2 g1 g2 g3 g4 => ?_)
    have k2 : mI S2 13 0 2 = nI n := by rw [g1 13 0 (by decide)]; exact h2
    refine e_walk (stops := [77]) 30 ?_
    show e_Run tb_X5_save post e_no 77 [some (aR 13 0), l1] [aI (mI S2 13 0 2 + 1), aR 13 0] S2 0 0
    rw [k2, nI_1]
    refine e_walk (stops := []) 30 ?_
    show post none (sI S2 13 0 2 (nI (n + 1)))
    refine h _ ⟨fun k i j y1 y2 => ?_, g2.trans f1.2.1, g3.trans f1.2.2⟩ ?_ (fun k hk j hj => ?_)
    · show (if k = 13 ∧ i = 0 ∧ j = 2 then nI (n + 1) else mI S2 k i j) = _
      rw [if_neg y1, g1 k i y2]
      exact f1.1 k i j y1 y2
    · rw [q_sI, if_pos rfl]
    · show (if 14 = 13 ∧ 1 = 0 ∧ 146 * k + j = 2 then nI (n + 1) else mI S2 14 1 (146 * k + j)) = _
      rw [if_neg (by omega), g4]
      unfold q_sv
      rw [hmn]
      by_cases hkn : k < n
      · rw [if_neg (by omega), if_pos hkn]
        exact h3 k hkn j hj
      · rw [if_pos (by omega), if_neg hkn, f1.1 14 0 _ (by omega) (by omega)]
        congr 1
        omega
  have f0 : q_frs S S := ⟨fun _ _ _ _ _ => rfl, rfl, rfl⟩
  refine e_walk (stops := [6]) 30 ?_
  show e_Run tb_X5_save post e_no 6 [some (aR 13 0), none] [aI (nI 6), aI (mI S 13 0 2)] S 0 0
  rw [hs]
  by_cases h6 : sn = 6
  · subst h6
    have loop : ∀ d k, k + d = 730 → ∀ S1, q_fr1 1 S S1 → (∀ j, j < 876 → mI S1 14 1 j = if j < k then mI S 14 1 (146 + j) else mI S 14 1 j) → e_Run tb_X5_save post e_no 11 [some (aR 13 0), some (aI (nI k))] [] S1 0 0 := by
      intro d
      induction d with
      | zero =>
        intro k hk S1 f1 h1
        obtain rfl : k = 730 := by omega
        refine e_walk (stops := [46]) 30 ?_
        refine And.intro (fun c => ?_) (fun c => absurd (show (730 : Int32) ≤ nI 730 by decide) c)
        show e_Run tb_X5_save post e_no 46 [some (aR 13 0), some (aI (nI 730))] [aI 1, aI (mI S1 13 0 2), aR 13 0] S1 0 0
        rw [f1.1 13 0 (by decide), hs]
        refine e_walk (stops := [50]) 3 ?_
        show e_Run tb_X5_save post e_no 50 [some (aR 13 0), some (aI (nI 730))] [] (sI S1 13 0 2 (nI 5)) 0 0
        refine fin _ _ ⟨fun k i j y1 y2 => ?_, f1.2.1, f1.2.2⟩ ?_ (fun k hk j hj => ?_)
        · show (if k = 13 ∧ i = 0 ∧ j = 2 then nI 5 else mI S1 k i j) = _
          rw [if_neg y1, f1.1 k i y2]
        · rw [q_sI, if_pos rfl]; rfl
        · have hk : k < 5 := hk
          show (if 14 = 13 ∧ 1 = 0 ∧ 146 * k + j = 2 then nI 5 else mI S1 14 1 (146 * k + j)) = _
          rw [if_neg (by omega), h1 _ (by omega), if_pos (by omega), if_pos rfl, ← hsv (k + 1) (by omega) j hj]
          congr 1
          omega
      | succ d ih =>
        intro k hk S1 f1 h1
        have c1 : (nI 146 + nI k).toNatClampNeg = 146 + k := q_cl (nI_add 146 k) (by omega)
        have c2 : (nI k).toNatClampNeg = k := nI_clamp (by omega)
        refine e_walk (stops := [11]) 30 ?_
        refine And.intro (fun c => absurd c (nI_ge (a := k) (b := 730) (by omega) (by decide))) (fun c => ?_)
        refine And.intro (q_in (nI_add 146 k) (show 146 + k < 876 by omega) (by decide)) ?_
        refine And.intro (q_in (n := k) rfl (show k < 876 by omega) (by decide)) ?_
        show e_Run tb_X5_save post e_no 11 [some (aR 13 0), some (aI (nI k + 1))] [] (sI S1 14 1 (nI k).toNatClampNeg (mI S1 14 1 (nI 146 + nI k).toNatClampNeg)) 0 0
        rw [c1, c2, nI_1]
        refine ih (k + 1) (by omega) _ f1.set (fun j hj => ?_)
        rw [q_sI]
        by_cases z : j = k
        · subst z
          rw [if_pos rfl, if_pos (by omega), h1 _ (by omega), if_neg (by omega)]
        · rw [if_neg z, h1 j hj]
          by_cases z2 : j < k
          · rw [if_pos z2, if_pos (by omega)]
          · rw [if_neg z2, if_neg (by omega)]
    refine e_walk (stops := [11]) 5 ?_
    refine And.intro (fun c => ?_) (fun c => absurd rfl c)
    exact loop 730 0 rfl S q_fr1.rf (fun j _ => by rw [if_neg (by omega)])
  · refine e_walk (stops := [50]) 5 ?_
    refine And.intro (fun c => absurd ((nI_eq (by omega) (by decide)).mp c) h6) (fun c => ?_)
    have hm : min sn 5 = sn := by omega
    exact fin S _ f0 (by rw [hm]; exact hs) (fun k hk j hj => by rw [if_neg h6]; exact hsv k (by omega) j hj)
-- a march is played
theorem q_bst_could (v : qV) (m k : Nat) (tk : Int32) : ∀ n, q_bst v m k tk n = -1 ∨ ∃ j, j < n ∧ q_bst v m k tk n = nI j ∧ q_could v j m k = true
  | 0 => Or.inl rfl
  | n + 1 => by
    rw [q_bst]
    cases hz : (decide (tk >>> (nI n &&& 31) &&& 1 = 0) && (q_could v n m k && (decide (q_bst v m k tk n = -1) || decide (q_of v (q_bst v m k tk n).toNatClampNeg 2 < q_of v n 2)))) with
    | true =>
      rw [Bool.and_eq_true, Bool.and_eq_true] at hz
      exact Or.inr ⟨n, by omega, rfl, hz.2.1⟩
    | false =>
      rcases q_bst_could v m k tk n with h | ⟨j, h1, h2, h3⟩
      · exact Or.inl h
      · exact Or.inr ⟨j, by omega, h2, h3⟩
def q_one (u : qV) (p i k : Nat) : qV := q_dents (upd (upd (upd u (16 + 7 * p + 1) (q_of u p 1 - nI (4 + 2 * k))) (16 + 7 * p + 6) (q_of u p 6 + 1)) (86 + 5 * i + 3) (q_its u i 3 + 1)) i (if (q_its u i 3 + 1) - (q_its u i 3 + 1) / 3 * 3 = 0 then 1 else 0)
/-- .. after k parts -/
def q_mr (v : qV) (m np : Nat) : Nat → qV
  | 0 => v
  | k + 1 => cond (decide (q_pl v m np k = -1)) (q_mr v m np k) (q_one (q_mr v m np k) (q_pl v m np k).toNatClampNeg (q_has v (q_pl v m np k).toNatClampNeg - 1) k)
def q_march (v : qV) (m np : Nat) : qV := upd (upd (upd (upd (upd (q_mr v m np 4) 4 1) 6 (v 6 + 1)) 7 (v 7 + nI (q_sh v m np 4))) 9 (v 9 + q_pence v (q_sh v m np 4))) 8 (v 8 + q_pence v (q_sh v m np 4))
theorem q_one_at {u : qV} {p i k j : Nat} (h : j ≠ 16 + 7 * p + 1 ∧ j ≠ 16 + 7 * p + 6 ∧ j ≠ 86 + 5 * i + 3 ∧ j ≠ 86 + 5 * i + 1 ∧ j ≠ 86 + 5 * i + 4) : q_one u p i k j = u j := by
  unfold q_one q_dents
  rw [q_un h.2.2.2.2, q_un h.2.2.2.1, q_un h.2.2.1, q_un h.2.1, q_un h.1]
/-- what a march leaves as it is -/
theorem q_mr_at {v : qV} {m np j : Nat} (hnp : np ≤ 10) (h : j < 16 ∨ (∃ p w, w < 7 ∧ w ≠ 1 ∧ w ≠ 6 ∧ j = 16 + 7 * p + w ∧ p < 10) ∨ 136 ≤ j) (hh : ∀ p, p < np → q_has v p ≤ 10) : ∀ k, q_mr v m np k j = v j
  | 0 => rfl
  | k + 1 => by
    rw [q_mr]
    cases hz : decide (q_pl v m np k = -1) with
    | true => exact q_mr_at hnp h hh k
    | false =>
      have hz := of_decide_eq_false hz
      rcases q_bst_cases v m k (q_tk v m np k) np with e | ⟨p, hp, e⟩
      · exact absurd e hz
      · have e : q_pl v m np k = nI p := e
        have hi := hh p hp
        show q_one _ _ _ _ j = v j
        rw [e, nI_clamp (by omega), q_one_at, q_mr_at hnp h hh k]
        rcases h with h | ⟨p2, w, h1, h2, h3, h4, h5⟩ | h
        · omega
        · omega
        · omega
def q_fr14 (S S2 : eM) : Prop := (∀ k i, ¬ (k = 14 ∧ (i = 0 ∨ i = 5)) → mI S2 k i = mI S k i) ∧ mR S2 = mR S ∧ mL S2 = mL S
theorem q_fr14.of0 {S S1 S2 : eM} (h : q_fr14 S S1) (k : q_fr1 0 S1 S2) : q_fr14 S S2 := ⟨fun a b hab => (k.1 a b (fun z => hab ⟨z.1, Or.inl z.2⟩)).trans (h.1 a b hab), k.2.1.trans h.2.1, k.2.2.trans h.2.2⟩
theorem q_fr14.of5 {S S1 S2 : eM} (h : q_fr14 S S1) (k : q_fr1 5 S1 S2) : q_fr14 S S2 := ⟨fun a b hab => (k.1 a b (fun z => hab ⟨z.1, Or.inr z.2⟩)).trans (h.1 a b hab), k.2.1.trans h.2.1, k.2.2.trans h.2.2⟩
theorem q_fr14.rf {S : eM} : q_fr14 S S := ⟨fun _ _ _ => rfl, rfl, rfl⟩
theorem q_X5_doMarch {S : eM} {post : eQ} {np ni m : Nat} (hv : q_ok0 (mI S 14 0) np ni) (hm : m < 4) (h : ∀ S2, q_fr14 S S2 → mI S2 14 0 = q_march (mI S 14 0) m np → post (some (aI (nI (q_sh (mI S 14 0) m np 4)))) S2) : w_X5_doMarch [aR 13 0, aI (nI m)] S post := by
  have hnp := hv.1
  have hhas : ∀ p, p < np → q_has (mI S 14 0) p ≤ 10 := fun p hp => (hv.has hp).1
  refine e_walk (stops := [5]) 20 ?_
  refine q_X5_penceOf hv hm (fun S1 f1 h1 => ?_)
  generalize hpc : q_pence (mI S 14 0) (q_sh (mI S 14 0) m np 4) = pc
  have e1 : mI S1 14 0 = mI S 14 0 := f1.1 14 0 (by decide)
  have loop : ∀ d k, k + d = 4 → ∀ S2, q_fr14 S S2 → (∀ j, j < 4 → mI S2 14 5 j = q_pl (mI S 14 0) m np j) → mI S2 14 0 = q_mr (mI S 14 0) m np k → ∀ l5 l6, e_Run tb_X5_doMarch post e_no 11 [some (aR 13 0), some (aI (nI m)), some (aI pc), some (aI (nI (q_sh (mI S 14 0) m np k))), some (aI (nI k)), l5, l6] [] S2 0 0 := by
    intro d
    induction d with
    | zero =>
      intro k hk S2 f2 h2 e2 l5 l6
      obtain rfl : k = 4 := by omega
      have c4 : ((4 : Int32)).toNatClampNeg = 4 := by decide
      have c6 : ((6 : Int32)).toNatClampNeg = 6 := by decide
      have c7 : ((7 : Int32)).toNatClampNeg = 7 := by decide
      have c9 : ((9 : Int32)).toNatClampNeg = 9 := by decide
      have c8 : ((8 : Int32)).toNatClampNeg = 8 := by decide
      have r : ∀ j, j < 16 → mI S2 14 0 j = mI S 14 0 j := fun j hj => by rw [e2, q_mr_at hnp (Or.inl hj) hhas]
      refine e_walk (stops := []) 60 ?_
      refine And.intro (fun c => ?_) (fun c => absurd (show (4 : Int32) ≤ nI 4 by decide) c)
      refine And.intro (show vp_in 4 146 from q_in (n := 4) rfl (by decide) (by decide)) ?_
      refine And.intro (show vp_in 6 146 from q_in (n := 6) rfl (by decide) (by decide)) (And.intro (show vp_in 6 146 from q_in (n := 6) rfl (by decide) (by decide)) ?_)
      refine And.intro (show vp_in 7 146 from q_in (n := 7) rfl (by decide) (by decide)) (And.intro (show vp_in 7 146 from q_in (n := 7) rfl (by decide) (by decide)) ?_)
      refine And.intro (show vp_in 9 146 from q_in (n := 9) rfl (by decide) (by decide)) (And.intro (show vp_in 9 146 from q_in (n := 9) rfl (by decide) (by decide)) ?_)
      refine And.intro (show vp_in 8 146 from q_in (n := 8) rfl (by decide) (by decide)) (And.intro (show vp_in 8 146 from q_in (n := 8) rfl (by decide) (by decide)) ?_)
      rw [c4, c6, c7, c9, c8]
      generalize hA : sI S2 14 0 4 1 = A
      have eA : mI A 14 0 = upd (mI S2 14 0) 4 1 := by rw [← hA, e_updI]
      have fA : q_fr14 S A := by rw [← hA]; exact f2.of0 q_fr1.rf.set
      have rA : mI A 14 0 6 = mI S 14 0 6 := by rw [eA, q_un (by decide), r 6 (by decide)]
      generalize hB : sI A 14 0 6 (mI A 14 0 6 + 1) = B
      have eB : mI B 14 0 = upd (mI A 14 0) 6 (mI S 14 0 6 + 1) := by rw [← hB, e_updI, rA]
      have fB : q_fr14 S B := by rw [← hB]; exact fA.of0 q_fr1.rf.set
      have rB : mI B 14 0 7 = mI S 14 0 7 := by rw [eB, q_un (by decide), eA, q_un (by decide), r 7 (by decide)]
      generalize hC : sI B 14 0 7 (mI B 14 0 7 + nI (q_sh (mI S 14 0) m np 4)) = C
      have eC : mI C 14 0 = upd (mI B 14 0) 7 (mI S 14 0 7 + nI (q_sh (mI S 14 0) m np 4)) := by rw [← hC, e_updI, rB]
      have fC : q_fr14 S C := by rw [← hC]; exact fB.of0 q_fr1.rf.set
      have rC : mI C 14 0 9 = mI S 14 0 9 := by rw [eC, q_un (by decide), eB, q_un (by decide), eA, q_un (by decide), r 9 (by decide)]
      generalize hD : sI C 14 0 9 (mI C 14 0 9 + pc) = D
      have eD : mI D 14 0 = upd (mI C 14 0) 9 (mI S 14 0 9 + pc) := by rw [← hD, e_updI, rC]
      have fD : q_fr14 S D := by rw [← hD]; exact fC.of0 q_fr1.rf.set
      have rD : mI D 14 0 8 = mI S 14 0 8 := by rw [eD, q_un (by decide), eC, q_un (by decide), eB, q_un (by decide), eA, q_un (by decide), r 8 (by decide)]
      show post (some (aI (nI (q_sh (mI S 14 0) m np 4)))) (sI D 14 0 8 (mI D 14 0 8 + pc))
      refine h _ (fD.of0 q_fr1.rf.set) ?_
      rw [e_updI, rD, eD, eC, eB, eA, e2, q_march, hpc]
    | succ d ih =>
      intro k hk S2 f2 h2 e2 l5 l6
      have hk4 : k < 4 := by omega
      have ek : (nI k).toNatClampNeg = k := nI_clamp (by omega)
      have ih := ih (k + 1) (by omega)
      rw [q_sh, q_mr] at ih
      refine e_walk (stops := [24]) 30 ?_
      refine And.intro (fun c => absurd c (nI_ge (a := k) (b := 4) (by omega) (by decide))) (fun c => ?_)
      refine And.intro (q_in (n := k) rfl (show k < 4 from hk4) (by decide)) ?_
      show e_Run tb_X5_doMarch post e_no 24 [some (aR 13 0), some (aI (nI m)), some (aI pc), some (aI (nI (q_sh (mI S 14 0) m np k))), some (aI (nI k)), l5, l6] [aI (mI S2 14 5 (nI k).toNatClampNeg)] S2 0 0
      rw [ek, h2 k hk4]
      rcases q_bst_could (mI S 14 0) m k (q_tk (mI S 14 0) m np k) np with e | ⟨p, hp, e, hcd⟩
      · have e : q_pl (mI S 14 0) m np k = -1 := e
        rw [e] at ih ⊢
        refine e_walk (stops := [11]) 30 ?_
        refine And.intro (fun c => ?_) (fun c => absurd rfl c)
        show e_Run tb_X5_doMarch post e_no 11 [some (aR 13 0), some (aI (nI m)), some (aI pc), some (aI (nI (q_sh (mI S 14 0) m np k) + 1)), some (aI (nI k + 1)), some (aI (-1)), l6] [] S2 0 0
        rw [nI_1, nI_1]
        exact ih S2 f2 h2 e2 _ _
      · have e : q_pl (mI S 14 0) m np k = nI p := e
        have hp10 : p < 10 := by omega
        have hne : ¬ nI p = -1 := by
          intro z
          have := congrArg Int32.toInt z
          rw [nI_toInt (by omega)] at this
          exact absurd this (by show ¬ (p : Int) = -1; omega)
        rw [e, decide_eq_false hne, nI_clamp (by omega)] at ih
        rw [e]
        have hpl : 0 < q_has (mI S 14 0) p := by
          unfold q_could at hcd
          rw [Bool.and_eq_true] at hcd
          exact q_plays_pos hcd.1
        obtain ⟨g1, g2, g3⟩ := hv.has hp
        generalize hu : q_mr (mI S 14 0) m np k = u at *
        have hu4 : q_of u p 4 = nI (q_has (mI S 14 0) p) := by rw [← g3, q_of, ← hu]; exact q_mr_at hnp (Or.inr (Or.inl ⟨p, 4, by decide, by decide, by decide, rfl, hp10⟩)) hhas k
        generalize hi : q_has (mI S 14 0) p - 1 = i at *
        have hi10 : i < 10 := by omega
        refine e_walk (stops := [45]) 30 ?_
        refine And.intro (fun c => absurd c hne) (fun c => ?_)
        refine q_X5_of (w := 4) hp10 (by decide) ?_
        rw [e2, hu4]
        refine e_walk (stops := [49]) 30 ?_
        show e_Run tb_X5_doMarch post e_no 49 [some (aR 13 0), some (aI (nI m)), some (aI pc), some (aI (nI (q_sh (mI S 14 0) m np k))), some (aI (nI k)), some (aI (nI p)), some (aI (nI (q_has (mI S 14 0) p) - 1))] [] S2 0 0
        rw [q_pred hpl, hi]
        refine e_walk (stops := [60]) 30 ?_
        refine q_X5_of (w := 1) hp10 (by decide) ?_
        rw [e2]
        refine e_walk (stops := [65]) 30 ?_
        refine q_X5_breathFor ?_
        refine e_walk (stops := [69]) 30 ?_
        refine q_X5_put (w := 1) hp10 (by decide) ?_
        generalize hA : sI S2 14 0 (16 + 7 * p + 1) ((fun a b => a - b) (q_of u p 1) (nI (4 + 2 * k))) = A
        have eA : mI A 14 0 = upd u (16 + 7 * p + 1) (q_of u p 1 - nI (4 + 2 * k)) := by rw [← hA, e_updI, e2]
        have fA : q_fr1 0 S2 A := by rw [← hA]; exact q_fr1.rf.set
        have rA : q_of (mI A 14 0) p 6 = q_of u p 6 := by rw [q_of, eA]; exact q_un (by omega)
        refine e_walk (stops := [82]) 30 ?_
        refine q_X5_of (w := 6) hp10 (by decide) ?_
        rw [rA]
        refine e_walk (stops := [87]) 30 ?_
        refine q_X5_put (w := 6) hp10 (by decide) ?_
        generalize hB : sI A 14 0 (16 + 7 * p + 6) ((fun a b => a + b) (q_of u p 6) 1) = B
        have eB : mI B 14 0 = upd (mI A 14 0) (16 + 7 * p + 6) (q_of u p 6 + 1) := by rw [← hB, e_updI]
        have fB : q_fr1 0 S2 B := by rw [← hB]; exact fA.set
        have rB : q_its (mI B 14 0) i 3 = q_its u i 3 := by rw [q_its, eB, q_un (by omega), eA]; exact q_un (by omega)
        refine e_walk (stops := [98]) 30 ?_
        refine q_X5_its (w := 3) hi10 (by decide) ?_
        rw [rB]
        refine e_walk (stops := [103]) 30 ?_
        refine q_X5_lay (w := 3) hi10 (by decide) ?_
        generalize hC : sI B 14 0 (86 + 5 * i + 3) ((fun a b => a + b) (q_its u i 3) 1) = C
        have eC : mI C 14 0 = upd (mI B 14 0) (86 + 5 * i + 3) (q_its u i 3 + 1) := by rw [← hC, e_updI]
        have fC : q_fr1 0 S2 C := by rw [← hC]; exact fB.set
        have rC : q_its (mI C 14 0) i 3 = q_its u i 3 + 1 := by rw [q_its, eC, q_ue]
        refine e_walk (stops := [113]) 30 ?_
        refine q_X5_its (w := 3) hi10 (by decide) ?_
        rw [rC]
        have fin : ∀ x, x = (if (q_its u i 3 + 1) - (q_its u i 3 + 1) / 3 * 3 = 0 then 1 else 0) → e_Run tb_X5_doMarch post e_no 123 [some (aR 13 0), some (aI (nI m)), some (aI pc), some (aI (nI (q_sh (mI S 14 0) m np k))), some (aI (nI k)), some (aI (nI p)), some (aI (nI i))] [aI x, aI (nI i), aR 13 0] C 0 0 := by
          intro x hx
          refine e_walk (stops := [126]) 1 ?_
          refine q_X5_dents hi10 (fun S3 f3 e3 => ?_)
          refine e_walk (stops := [11]) 30 ?_
          show e_Run tb_X5_doMarch post e_no 11 [some (aR 13 0), some (aI (nI m)), some (aI pc), some (aI (nI (q_sh (mI S 14 0) m np k))), some (aI (nI k + 1)), some (aI (nI p)), some (aI (nI i))] [] S3 0 0
          rw [nI_1]
          refine ih S3 ((f2.of0 fC).of0 f3) (fun j hj => ?_) ?_ _ _
          · rw [f3.1 14 5 (by decide), fC.1 14 5 (by decide)]
            exact h2 j hj
          · rw [e3, eC, eB, eA, hx]
            rfl
        refine e_walk (stops := [123]) 30 ?_
        refine And.intro (by decide) ?_
        refine And.intro (fun c => ?_) (fun c => ?_)
        · exact fin _ (by rw [if_pos c])
        · exact fin _ (by rw [if_neg c])
  refine e_walk (stops := [11]) 30 ?_
  exact loop 4 0 rfl S1 (q_fr14.rf.of5 f1) h1 (by rw [e1]; rfl) _ _
