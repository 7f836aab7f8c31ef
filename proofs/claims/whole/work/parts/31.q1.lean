/-! What walks come to, 1: ground. Own work. -/
theorem e_ln14 (x : Nat) : e_ln 14 x ≤ 876 := by
  rcases x with _ | _ | _ | _ | _ | x
  · decide
  · decide
  · decide
  · decide
  · decide
  · exact (by decide : 4 ≤ 876)
theorem q_X5_copy {S : eM} {post : eQ} {x y f t : Nat} (hx : f + 146 ≤ e_ln 14 x) (hy : t + 146 ≤ e_ln 14 y) (hxy : x ≠ y) (hf : f ≤ 1000) (ht : t ≤ 1000) (hp : ∀ S2 : eM, (∀ k i, ¬ (k = 14 ∧ i = y) → mI S2 k i = mI S k i) → mR S2 = mR S → mL S2 = mL S → (∀ j, mI S2 14 y j = if t ≤ j ∧ j < t + 146 then mI S 14 x (f + (j - t)) else mI S 14 y j) → post none S2) : w_X5_copy [aR 14 x, aI (nI f), aR 14 y, aI (nI t)] S post := by
  have key : ∀ n k : Nat, k + n = 146 → ∀ S1 : eM, (∀ k i, ¬ (k = 14 ∧ i = y) → mI S1 k i = mI S k i) → mR S1 = mR S → mL S1 = mL S → (∀ j, mI S1 14 y j = if t ≤ j ∧ j < t + k then mI S 14 x (f + (j - t)) else mI S 14 y j) → e_Run tb_X5_copy post e_no 3 [some (aR 14 x), some (aI (nI f)), some (aR 14 y), some (aI (nI t)), some (aI (nI k))] [] S1 0 0 := by
    intro n
    induction n with
    | zero =>
      intro k hk S1 h1 h2 h3 h4
      obtain rfl : k = 146 := by omega
      refine e_walk (stops := [3]) 20 ?_
      refine And.intro (fun c => ?_) (fun c => absurd (show (146 : Int32) ≤ nI 146 by decide) c)
      exact hp S1 h1 h2 h3 h4
    | succ n ih =>
      intro k hk S1 h1 h2 h3 h4
      refine e_walk (stops := [3]) 20 ?_
      refine And.intro (fun c => absurd c ?_) (fun c => ?_)
      · exact nI_ge (a := k) (b := 146) (by omega) (by decide)
      · have e1 : (nI f + nI k).toNatClampNeg = f + k := by rw [nI_add, nI_clamp (by omega)]
        have e2 : (nI t + nI k).toNatClampNeg = t + k := by rw [nI_add, nI_clamp (by omega)]
        refine And.intro (show vp_in (nI f + nI k) (e_ln 14 x) from ?_) ?_
        · rw [nI_add]; exact nI_in (by omega) (Nat.lt_of_le_of_lt (e_ln14 _) (by decide))
        refine And.intro (show vp_in (nI t + nI k) (e_ln 14 y) from ?_) ?_
        · rw [nI_add]; exact nI_in (by omega) (Nat.lt_of_le_of_lt (e_ln14 _) (by decide))
        show e_Run tb_X5_copy post e_no 3 [some (aR 14 x), some (aI (nI f)), some (aR 14 y), some (aI (nI t)), some (aI (nI k + 1))] [] (sI S1 14 y (nI t + nI k).toNatClampNeg (mI S1 14 x (nI f + nI k).toNatClampNeg)) 0 0
        rw [e1, e2, nI_1, h1 14 x (by omega)]
        refine ih (k + 1) (by omega) _ (fun a b hab => ?_) h2 h3 (fun j => ?_)
        · rw [← h1 a b hab]
          exact e_u3_ne (fun z => hab ⟨congrArg Prod.fst z, congrArg Prod.snd z⟩)
        · show (if 14 = 14 ∧ y = y ∧ j = t + k then mI S 14 x (f + k) else mI S1 14 y j) = _
          rw [h4 j]
          by_cases hj : j = t + k
          · subst hj
            rw [if_pos ⟨rfl, rfl, rfl⟩, if_pos (by omega), Nat.add_sub_cancel_left]
          · rw [if_neg (fun z => hj z.2.2)]
            by_cases hj2 : t ≤ j ∧ j < t + k
            · rw [if_pos hj2, if_pos (by omega)]
            · rw [if_neg hj2, if_neg (by omega)]
  show e_Run tb_X5_copy post e_no 0 [some (aR 14 x), some (aI (nI f)), some (aR 14 y), some (aI (nI t)), none] [] S 0 0
  refine e_walk (stops := [3]) 3 ?_
  exact key 146 0 rfl S (fun _ _ _ => rfl) rfl rfl (fun j => by rw [if_neg (by omega)])
theorem nI_mul (a b : Nat) : nI a * nI b = nI (a * b) := (Int32.ofNat_mul a b).symm
theorem q_in {x : Int32} {n L : Nat} (hx : x = nI n) (h : n < L) (hL : L ≤ 65536) : vp_in x L := by subst hx; exact nI_in h (by omega)
theorem q_cl {x : Int32} {n : Nat} (hx : x = nI n) (h : n < 65536) : x.toNatClampNeg = n := by subst hx; exact nI_clamp (by omega)
/-- the reference's row of numbers -/
abbrev qV : Type := Nat → Int32
abbrev q_of (v : qV) (p w : Nat) : Int32 := v (16 + 7 * p + w)
abbrev q_its (v : qV) (i w : Nat) : Int32 := v (86 + 5 * i + w)
def q_sm (B : Nat) (x : Int32) : Prop := ∃ n, n ≤ B ∧ x = nI n
def q_has (v : qV) (p : Nat) : Nat := (q_of v p 4).toNatClampNeg
def q_plays (v : qV) (p : Nat) : Bool := decide (0 < q_has v p) && decide (q_its v (q_has v p - 1) 1 < 5)
def q_kf (m k : Nat) : Nat := (m + k / 2) % 4
def q_lf (m k : Nat) : Int32 := if (2 : Int32) + 3 * nI m - 2 * nI k < 1 then 1 else 2 + 3 * nI m - 2 * nI k
def q_could (v : qV) (p m k : Nat) : Bool := q_plays v p && (decide (q_its v (q_has v p - 1) 0 = nI (q_kf m k)) && (decide (¬ q_of v p 1 < nI (4 + 2 * k)) && decide (¬ q_of v p 2 < q_lf m k)))
/-- who gets a part, of the first n pupils -/
def q_bst (v : qV) (m k : Nat) (tk : Int32) : Nat → Int32
  | 0 => -1
  | n + 1 => cond (decide (tk >>> (nI n &&& 31) &&& 1 = 0) && (q_could v n m k && (decide (q_bst v m k tk n = -1) || decide (q_of v (q_bst v m k tk n).toNatClampNeg 2 < q_of v n 2)))) (nI n) (q_bst v m k tk n)
def q_tk (v : qV) (m np : Nat) : Nat → Int32
  | 0 => 0
  | k + 1 => cond (decide (q_bst v m k (q_tk v m np k) np = -1)) (q_tk v m np k) (q_tk v m np k ||| (1 : Int32) <<< (q_bst v m k (q_tk v m np k) np &&& 31))
def q_pl (v : qV) (m np k : Nat) : Int32 := q_bst v m k (q_tk v m np k) np
def q_sh (v : qV) (m np : Nat) : Nat → Nat
  | 0 => 0
  | k + 1 => q_sh v m np k + cond (decide (q_pl v m np k = -1)) 1 0
/-- what is small in a row -/
def q_ok0 (v : qV) (np ni : Nat) : Prop := np ≤ 10 ∧ ni ≤ 10 ∧ v 0 = nI np ∧ v 1 = nI ni ∧ ∀ p, p < np → ∃ h, h ≤ ni ∧ q_of v p 4 = nI h
theorem q_ok0.has {v : qV} {np ni p : Nat} (h : q_ok0 v np ni) (hp : p < np) : q_has v p ≤ 10 ∧ q_has v p ≤ ni ∧ q_of v p 4 = nI (q_has v p) := by
  obtain ⟨h1, h2, h3, h4, h5⟩ := h
  obtain ⟨k, k1, k2⟩ := h5 p hp
  have e : q_has v p = k := q_cl k2 (by omega)
  exact ⟨by omega, by omega, by rw [e]; exact k2⟩
theorem q_X5_of {S : eM} {post : eQ} {p w : Nat} (hp : p < 10) (hw : w < 7) (h : post (some (aI (q_of (mI S 14 0) p w))) S) : w_X5_of [aR 13 0, aI (nI p), aI (nI w)] S post := by
  have e : (nI 16 + nI 7 * nI p) + nI w = nI (16 + 7 * p + w) := by rw [nI_mul, nI_add, nI_add]
  refine e_walk (stops := []) 20 ?_
  refine And.intro (q_in e (show 16 + 7 * p + w < 146 by omega) (by decide)) ?_
  show post (some (aI (mI S 14 0 ((nI 16 + nI 7 * nI p) + nI w).toNatClampNeg))) S
  rw [q_cl e (by omega)]
  exact h
theorem q_X5_its {S : eM} {post : eQ} {i w : Nat} (hi : i < 10) (hw : w < 5) (h : post (some (aI (q_its (mI S 14 0) i w))) S) : w_X5_its [aR 13 0, aI (nI i), aI (nI w)] S post := by
  have e : (nI 86 + nI 5 * nI i) + nI w = nI (86 + 5 * i + w) := by rw [nI_mul, nI_add, nI_add]
  refine e_walk (stops := []) 20 ?_
  refine And.intro (q_in e (show 86 + 5 * i + w < 146 by omega) (by decide)) ?_
  show post (some (aI (mI S 14 0 ((nI 86 + nI 5 * nI i) + nI w).toNatClampNeg))) S
  rw [q_cl e (by omega)]
  exact h
theorem q_X5_canBePlayed {S : eM} {post : eQ} {i : Nat} (hi : i < 10) (h : post (some (aI (cond (decide (q_its (mI S 14 0) i 1 < 5)) 1 0))) S) : w_X5_canBePlayed [aR 13 0, aI (nI i)] S post := by
  refine e_walk (stops := [6]) 9 ?_
  refine q_X5_its (w := 1) hi (by decide) ?_
  refine e_walk (stops := []) 20 ?_
  refine And.intro (fun c => ?_) (fun c => ?_)
  · rw [decide_eq_false (show ¬ q_its (mI S 14 0) i 1 < 5 from Int32.not_lt.mpr c)] at h
    exact h
  · rw [decide_eq_true (show q_its (mI S 14 0) i 1 < 5 from Int32.not_le.mp c)] at h
    exact h
theorem q_pred {n : Nat} (h : 0 < n) : nI n - 1 = nI (n - 1) := by
  obtain ⟨k, rfl⟩ : ∃ k, n = k + 1 := ⟨n - 1, by omega⟩
  exact nI_pred k
theorem q_X5_canPlay {S : eM} {post : eQ} {p np ni : Nat} (hv : q_ok0 (mI S 14 0) np ni) (hp : p < np) (h : post (some (aI (cond (q_plays (mI S 14 0) p) 1 0))) S) : w_X5_canPlay [aR 13 0, aI (nI p)] S post := by
  obtain ⟨h1, h2, h3⟩ := hv.has hp
  have hp10 : p < 10 := Nat.lt_of_lt_of_le hp hv.1
  refine e_walk (stops := [6]) 9 ?_
  refine q_X5_of (w := 4) hp10 (by decide) ?_
  refine e_walk (stops := [16]) 9 ?_
  rw [q_plays] at h
  refine And.intro (fun c => ?_) (fun c => ?_)
  · have c : q_of (mI S 14 0) p 4 ≤ 0 := c
    have z : ¬ 0 < q_has (mI S 14 0) p := fun z => by rw [h3] at c; exact nI_nle z (by omega) c
    rw [decide_eq_false z] at h
    exact h
  · have c : ¬ q_of (mI S 14 0) p 4 ≤ 0 := c
    have z : 0 < q_has (mI S 14 0) p := Nat.pos_of_ne_zero (fun z => c (by rw [h3, z]; decide))
    rw [decide_eq_true z] at h
    refine q_X5_of (w := 4) hp10 (by decide) ?_
    refine e_walk (stops := [18]) 8 ?_
    show e_Run tb_X5_canPlay post e_no 18 [some (aR 13 0), some (aI (nI p))] [aI (q_of (mI S 14 0) p 4 - 1), aR 13 0] S 0 0
    rw [h3, q_pred z]
    refine e_walk (stops := [21]) 1 ?_
    refine q_X5_canBePlayed (by omega) ?_
    refine e_walk (stops := []) 8 ?_
    by_cases z2 : q_its (mI S 14 0) (q_has (mI S 14 0) p - 1) 1 < 5
    · rw [decide_eq_true z2] at h ⊢
      exact And.intro (fun c => absurd c (by decide)) (fun c => h)
    · rw [decide_eq_false z2] at h ⊢
      exact And.intro (fun c => h) (fun c => absurd rfl c)
theorem q_kf_eq {m k : Nat} (hm : m < 4) (hk : k < 4) : (nI m + nI k / 2) - (nI m + nI k / 2) / 4 * 4 = nI (q_kf m k) := by
  rcases (show m = 0 ∨ m = 1 ∨ m = 2 ∨ m = 3 by omega) with rfl | rfl | rfl | rfl <;> rcases (show k = 0 ∨ k = 1 ∨ k = 2 ∨ k = 3 by omega) with rfl | rfl | rfl | rfl <;> decide +kernel
theorem q_X5_kindFor {S : eM} {post : eQ} {m k : Nat} (hm : m < 4) (hk : k < 4) (h : post (some (aI (nI (q_kf m k)))) S) : w_X5_kindFor [aI (nI m), aI (nI k)] S post := by
  refine e_walk (stops := []) 20 ?_
  refine And.intro (by decide) (And.intro (by decide) ?_)
  show post (some (aI ((nI m + nI k / 2) - (nI m + nI k / 2) / 4 * 4))) S
  rw [q_kf_eq hm hk]
  exact h
theorem q_X5_breathFor {S : eM} {post : eQ} {k : Nat} (h : post (some (aI (nI (4 + 2 * k)))) S) : w_X5_breathFor [aI (nI k)] S post := by
  refine e_walk (stops := []) 20 ?_
  show post (some (aI (nI 4 + nI 2 * nI k))) S
  rw [nI_mul, nI_add]
  exact h
theorem q_X5_lipsFor {S : eM} {post : eQ} {m k : Nat} (h : post (some (aI (q_lf m k))) S) : w_X5_lipsFor [aI (nI m), aI (nI k)] S post := by
  refine e_walk (stops := []) 20 ?_
  unfold q_lf at h
  refine And.intro (fun c => ?_) (fun c => ?_)
  · rw [if_neg (Int32.not_lt.mpr c)] at h
    exact h
  · rw [if_pos (Int32.not_le.mp c)] at h
    exact h
theorem q_plays_pos {v : qV} {p : Nat} (h : q_plays v p = true) : 0 < q_has v p := by
  unfold q_plays at h
  rw [Bool.and_eq_true] at h
  exact of_decide_eq_true h.1
theorem q_X5_kindOf {S : eM} {post : eQ} {p np ni : Nat} (hv : q_ok0 (mI S 14 0) np ni) (hp : p < np) (h0 : 0 < q_has (mI S 14 0) p) (h : post (some (aI (q_its (mI S 14 0) (q_has (mI S 14 0) p - 1) 0))) S) : w_X5_kindOf [aR 13 0, aI (nI p)] S post := by
  obtain ⟨h1, h2, h3⟩ := hv.has hp
  have hp10 : p < 10 := Nat.lt_of_lt_of_le hp hv.1
  refine e_walk (stops := [7]) 9 ?_
  refine q_X5_of (w := 4) hp10 (by decide) ?_
  refine e_walk (stops := [10]) 8 ?_
  show e_Run tb_X5_kindOf post e_no 10 [some (aR 13 0), some (aI (nI p))] [aI 0, aI (q_of (mI S 14 0) p 4 - 1), aR 13 0] S 0 0
  rw [h3, q_pred h0]
  refine e_walk (stops := [13]) 1 ?_
  refine q_X5_its (w := 0) (by omega) (by decide) ?_
  refine e_walk (stops := []) 3 ?_
  exact h
theorem q_X5_couldPlay {S : eM} {post : eQ} {p np ni m k : Nat} (hv : q_ok0 (mI S 14 0) np ni) (hp : p < np) (hm : m < 4) (hk : k < 4) (h : post (some (aI (cond (q_could (mI S 14 0) p m k) 1 0))) S) : w_X5_couldPlay [aR 13 0, aI (nI p), aI (nI m), aI (nI k)] S post := by
  have hp10 : p < 10 := Nat.lt_of_lt_of_le hp hv.1
  unfold q_could at h
  refine e_walk (stops := [5]) 9 ?_
  refine q_X5_canPlay hv hp ?_
  refine e_walk (stops := [13]) 9 ?_
  cases z1 : q_plays (mI S 14 0) p with
  | false =>
    rw [z1] at h
    refine And.intro (fun c => h) (fun c => absurd rfl c)
  | true =>
    rw [z1, Bool.true_and] at h
    refine And.intro (fun c => absurd c (by decide)) (fun c => ?_)
    refine q_X5_kindOf hv hp (q_plays_pos z1) ?_
    refine e_walk (stops := [18]) 9 ?_
    refine q_X5_kindFor hm hk ?_
    refine e_walk (stops := [27]) 9 ?_
    refine And.intro (fun c => ?_) (fun c => ?_)
    · rw [decide_eq_true (show q_its (mI S 14 0) (q_has (mI S 14 0) p - 1) 0 = nI (q_kf m k) from c), Bool.true_and] at h
      refine q_X5_of (w := 1) hp10 (by decide) ?_
      refine e_walk (stops := [31]) 9 ?_
      refine q_X5_breathFor ?_
      refine e_walk (stops := [40]) 9 ?_
      refine And.intro (fun c => ?_) (fun c => ?_)
      · rw [decide_eq_false (show ¬ ¬ q_of (mI S 14 0) p 1 < nI (4 + 2 * k) from fun z => z c), Bool.false_and] at h
        exact h
      · rw [decide_eq_true (show ¬ q_of (mI S 14 0) p 1 < nI (4 + 2 * k) from c), Bool.true_and] at h
        refine q_X5_of (w := 2) hp10 (by decide) ?_
        refine e_walk (stops := [45]) 9 ?_
        refine q_X5_lipsFor ?_
        refine e_walk (stops := []) 9 ?_
        refine And.intro (fun c => ?_) (fun c => ?_)
        · rw [decide_eq_false (show ¬ ¬ q_of (mI S 14 0) p 2 < q_lf m k from fun z => z c)] at h
          exact h
        · rw [decide_eq_true (show ¬ q_of (mI S 14 0) p 2 < q_lf m k from c)] at h
          exact h
    · rw [decide_eq_false (show ¬ q_its (mI S 14 0) (q_has (mI S 14 0) p - 1) 0 = nI (q_kf m k) from c), Bool.false_and] at h
      exact h
/-- all but one of the reference's rows is as it was -/
def q_fr1 (i0 : Nat) (S S2 : eM) : Prop := (∀ k i, ¬ (k = 14 ∧ i = i0) → mI S2 k i = mI S k i) ∧ mR S2 = mR S ∧ mL S2 = mL S
theorem q_fr1.rf {i0 : Nat} {S : eM} : q_fr1 i0 S S := ⟨fun _ _ _ => rfl, rfl, rfl⟩
theorem q_fr1.set {i0 : Nat} {S S1 : eM} (h : q_fr1 i0 S S1) {j : Nat} {x : Int32} : q_fr1 i0 S (sI S1 14 i0 j x) :=
  ⟨fun a b hab => (e_u3_ne (fun z => hab ⟨congrArg Prod.fst z, congrArg Prod.snd z⟩)).trans (h.1 a b hab), h.2⟩
theorem q_sI {S : eM} {k i j a : Nat} {x : Int32} : mI (sI S k i j x) k i a = if a = j then x else mI S k i a := by
  show (if k = k ∧ i = i ∧ a = j then x else mI S k i a) = _
  by_cases h : a = j
  · rw [if_pos ⟨rfl, rfl, h⟩, if_pos h]
  · rw [if_neg (fun z => h z.2.2), if_neg h]
theorem q_bst_cases (v : qV) (m k : Nat) (tk : Int32) : ∀ n, q_bst v m k tk n = -1 ∨ ∃ j, j < n ∧ q_bst v m k tk n = nI j
  | 0 => Or.inl rfl
  | n + 1 => by
    rw [q_bst]
    cases (decide (tk >>> (nI n &&& 31) &&& 1 = 0) && (q_could v n m k && (decide (q_bst v m k tk n = -1) || decide (q_of v (q_bst v m k tk n).toNatClampNeg 2 < q_of v n 2)))) with
    | true => exact Or.inr ⟨n, by omega, rfl⟩
    | false =>
      rcases q_bst_cases v m k tk n with h | ⟨j, h1, h2⟩
      · exact Or.inl h
      · exact Or.inr ⟨j, by omega, h2⟩
theorem q_X5_lineUp {S : eM} {post : eQ} {np ni m : Nat} (hv : q_ok0 (mI S 14 0) np ni) (hm : m < 4) (hp : ∀ S2, q_fr1 5 S S2 → (∀ j, j < 4 → mI S2 14 5 j = q_pl (mI S 14 0) m np j) → post (some (aI (nI (q_sh (mI S 14 0) m np 4)))) S2) : w_X5_lineUp [aR 13 0, aI (nI m)] S post := by
  have hnp : np ≤ 10 := hv.1
  have outer : ∀ d k, k + d = 4 → ∀ S1, q_fr1 5 S S1 → (∀ j, j < k → mI S1 14 5 j = q_pl (mI S 14 0) m np j) → ∀ l5 l6 : Option eV, e_Run tb_X5_lineUp post e_no 7 [some (aR 13 0), some (aI (nI m)), some (aI (q_tk (mI S 14 0) m np k)), some (aI (nI (q_sh (mI S 14 0) m np k))), some (aI (nI k)), l5, l6] [] S1 0 0 := by
    intro d
    induction d with
    | zero =>
      intro k hk S1 h1 h2 l5 l6
      obtain rfl : k = 4 := by omega
      refine e_walk (stops := []) 10 ?_
      exact And.intro (fun c => hp S1 h1 h2) (fun c => absurd (show (4 : Int32) ≤ nI 4 by decide) c)
    | succ d ihd =>
      intro k hk S1 h1 h2 l5 l6
      have hk4 : k < 4 := by omega
      have ek : (nI k).toNatClampNeg = k := nI_clamp (by omega)
      refine e_walk (stops := [24]) 30 ?_
      refine And.intro (fun c => absurd c (nI_ge (a := k) (b := 4) (by omega) (by decide))) (fun c => ?_)
      refine And.intro (q_in (n := k) rfl (show k < 4 from hk4) (by decide)) ?_
      show e_Run tb_X5_lineUp post e_no 24 [some (aR 13 0), some (aI (nI m)), some (aI (q_tk (mI S 14 0) m np k)), some (aI (nI (q_sh (mI S 14 0) m np k))), some (aI (nI k)), some (aI (nI 0)), l6] [] (sI S1 14 5 (nI k).toNatClampNeg (-1)) 0 0
      rw [ek]
      have inner : ∀ e n, n + e = np → ∀ S1, q_fr1 5 S S1 → (∀ j, j < k → mI S1 14 5 j = q_pl (mI S 14 0) m np j) → mI S1 14 5 k = q_bst (mI S 14 0) m k (q_tk (mI S 14 0) m np k) n → ∀ l6 : Option eV, e_Run tb_X5_lineUp post e_no 24 [some (aR 13 0), some (aI (nI m)), some (aI (q_tk (mI S 14 0) m np k)), some (aI (nI (q_sh (mI S 14 0) m np k))), some (aI (nI k)), some (aI (nI n)), l6] [] S1 0 0 := by
        intro e
        induction e with
        | zero =>
          intro n hn S1 h1 h2 h3 l6
          obtain rfl : n = np := by omega
          have hv0 : mI S1 14 0 = mI S 14 0 := h1.1 14 0 (by decide)
          have hs0 : mI S1 14 0 0 = nI n := by rw [hv0]; exact hv.2.2.1
          refine e_walk (stops := [7, 126]) 10 ?_
          refine And.intro (fun c => ?_) (fun c => absurd (show mI S1 14 0 0 ≤ nI n by rw [hs0]; exact nI_le (Nat.le_refl _) (by omega)) c)
          have hx : mI S1 14 5 (nI k).toNatClampNeg = q_pl (mI S 14 0) m n k := by rw [ek]; exact h3
          have h2b : ∀ j, j < k + 1 → mI S1 14 5 j = q_pl (mI S 14 0) m n j := fun j hj => by
            rcases Nat.lt_succ_iff_lt_or_eq.mp hj with z | rfl
            · exact h2 j z
            · exact h3
          refine e_walk (stops := [7, 135]) 10 ?_
          refine And.intro (q_in (n := k) rfl (show k < 4 from hk4) (by decide)) ?_
          show e_Run tb_X5_lineUp post e_no 135 [some (aR 13 0), some (aI (nI m)), some (aI (q_tk (mI S 14 0) m n k)), some (aI (nI (q_sh (mI S 14 0) m n k))), some (aI (nI k)), some (aI (nI n)), l6] [aI (-1), aI (mI S1 14 5 (nI k).toNatClampNeg), aI (q_tk (mI S 14 0) m n k)] S1 0 0
          rw [hx]
          by_cases hz : q_pl (mI S 14 0) m n k = -1
          · have e1 : q_tk (mI S 14 0) m n (k + 1) = q_tk (mI S 14 0) m n k := by rw [q_tk]; rw [show q_bst (mI S 14 0) m k (q_tk (mI S 14 0) m n k) n = -1 from hz]; rfl
            have e2 : q_sh (mI S 14 0) m n (k + 1) = q_sh (mI S 14 0) m n k + 1 := by rw [q_sh, hz]; rfl
            refine e_walk (stops := [7, 162]) 15 ?_
            refine And.intro (fun c => ?_) (fun c => absurd hz c)
            refine And.intro (q_in (n := k) rfl (show k < 4 from hk4) (by decide)) ?_
            show e_Run tb_X5_lineUp post e_no 162 [some (aR 13 0), some (aI (nI m)), some (aI (q_tk (mI S 14 0) m n k ||| 0)), some (aI (nI (q_sh (mI S 14 0) m n k))), some (aI (nI k)), some (aI (nI n)), l6] [aI (-1), aI (mI S1 14 5 (nI k).toNatClampNeg), aI (nI (q_sh (mI S 14 0) m n k))] S1 0 0
            rw [hx, hz, Int32.or_zero]
            refine e_walk (stops := [7]) 15 ?_
            refine And.intro (fun c => ?_) (fun c => absurd rfl c)
            show e_Run tb_X5_lineUp post e_no 7 [some (aR 13 0), some (aI (nI m)), some (aI (q_tk (mI S 14 0) m n k)), some (aI (nI (q_sh (mI S 14 0) m n k) + 1)), some (aI (nI k + 1)), some (aI (nI n)), l6] [] S1 0 0
            rw [nI_1, nI_1, ← e1, ← e2]
            exact ihd (k + 1) (by omega) S1 h1 h2b _ _
          · have e1 : q_tk (mI S 14 0) m n (k + 1) = q_tk (mI S 14 0) m n k ||| (1 : Int32) <<< (q_pl (mI S 14 0) m n k &&& 31) := by rw [q_tk, decide_eq_false (show ¬ q_bst (mI S 14 0) m k (q_tk (mI S 14 0) m n k) n = -1 from hz)]; rfl
            have e2 : q_sh (mI S 14 0) m n (k + 1) = q_sh (mI S 14 0) m n k := by rw [q_sh, decide_eq_false hz]; rfl
            refine e_walk (stops := [7, 150]) 15 ?_
            refine And.intro (fun c => absurd c hz) (fun c => ?_)
            refine And.intro (q_in (n := k) rfl (show k < 4 from hk4) (by decide)) ?_
            show e_Run tb_X5_lineUp post e_no 150 [some (aR 13 0), some (aI (nI m)), some (aI (q_tk (mI S 14 0) m n k)), some (aI (nI (q_sh (mI S 14 0) m n k))), some (aI (nI k)), some (aI (nI n)), l6] [aI (mI S1 14 5 (nI k).toNatClampNeg), aI 1, aI (q_tk (mI S 14 0) m n k)] S1 0 0
            rw [hx]
            refine e_walk (stops := [7, 162]) 15 ?_
            refine And.intro (q_in (n := k) rfl (show k < 4 from hk4) (by decide)) ?_
            show e_Run tb_X5_lineUp post e_no 162 [some (aR 13 0), some (aI (nI m)), some (aI (q_tk (mI S 14 0) m n k ||| (1 : Int32) <<< (q_pl (mI S 14 0) m n k &&& 31))), some (aI (nI (q_sh (mI S 14 0) m n k))), some (aI (nI k)), some (aI (nI n)), l6] [aI (-1), aI (mI S1 14 5 (nI k).toNatClampNeg), aI (nI (q_sh (mI S 14 0) m n k))] S1 0 0
            rw [hx]
            refine e_walk (stops := [7]) 15 ?_
            refine And.intro (fun c => absurd c hz) (fun c => ?_)
            show e_Run tb_X5_lineUp post e_no 7 [some (aR 13 0), some (aI (nI m)), some (aI (q_tk (mI S 14 0) m n k ||| (1 : Int32) <<< (q_pl (mI S 14 0) m n k &&& 31))), some (aI (nI (q_sh (mI S 14 0) m n k) + nI 0)), some (aI (nI k + 1)), some (aI (nI n)), l6] [] S1 0 0
            rw [nI_1, nI_add, Nat.add_zero, ← e1, ← e2]
            exact ihd (k + 1) (by omega) S1 h1 h2b _ _
        | succ e ihe =>
          intro n hn S1 h1 h2 h3 l6
          have hv0 : mI S1 14 0 = mI S 14 0 := h1.1 14 0 (by decide)
          have hs0 : mI S1 14 0 0 = nI np := by rw [hv0]; exact hv.2.2.1
          have hv1 : q_ok0 (mI S1 14 0) np ni := by rw [hv0]; exact hv
          have hn10 : n < 10 := by omega
          have fin : ∀ (x : Int32) (l6 : Option eV), x = q_bst (mI S 14 0) m k (q_tk (mI S 14 0) m np k) (n + 1) → e_Run tb_X5_lineUp post e_no 119 [some (aR 13 0), some (aI (nI m)), some (aI (q_tk (mI S 14 0) m np k)), some (aI (nI (q_sh (mI S 14 0) m np k))), some (aI (nI k)), some (aI (nI n)), l6] [aI x, aI (nI k), aR 14 5] S1 0 0 := by
            intro x l6 hx
            refine e_walk (stops := [24]) 10 ?_
            refine And.intro (q_in (n := k) rfl (show k < 4 from hk4) (by decide)) ?_
            show e_Run tb_X5_lineUp post e_no 24 [some (aR 13 0), some (aI (nI m)), some (aI (q_tk (mI S 14 0) m np k)), some (aI (nI (q_sh (mI S 14 0) m np k))), some (aI (nI k)), some (aI (nI n + 1)), l6] [] (sI S1 14 5 (nI k).toNatClampNeg x) 0 0
            rw [ek, nI_1]
            refine ihe (n + 1) (by omega) _ h1.set (fun j hj => ?_) ?_ _
            · rw [q_sI, if_neg (by omega)]
              exact h2 j hj
            · rw [q_sI, if_pos rfl]
              exact hx
          have hx : mI S1 14 5 (nI k).toNatClampNeg = q_bst (mI S 14 0) m k (q_tk (mI S 14 0) m np k) n := by rw [ek]; exact h3
          have no : ∀ l6, (decide (q_tk (mI S 14 0) m np k >>> (nI n &&& 31) &&& 1 = 0) && q_could (mI S 14 0) n m k) = false → e_Run tb_X5_lineUp post e_no 61 [some (aR 13 0), some (aI (nI m)), some (aI (q_tk (mI S 14 0) m np k)), some (aI (nI (q_sh (mI S 14 0) m np k))), some (aI (nI k)), some (aI (nI n)), l6] [aI 0] S1 0 0 := by
            intro l6 hz
            refine e_walk (stops := [119]) 20 ?_
            refine And.intro (fun c => ?_) (fun c => absurd rfl c)
            refine And.intro (q_in (n := k) rfl (show k < 4 from hk4) (by decide)) ?_
            refine fin _ _ ?_
            rw [hx, q_bst, ← Bool.and_assoc, hz]
            rfl
          refine e_walk (stops := [50, 60]) 20 ?_
          refine And.intro (fun c => absurd (show mI S1 14 0 0 ≤ nI n from c) (by rw [hs0]; exact nI_ge (by omega) (by omega))) (fun c => ?_)
          refine And.intro (fun c => ?_) (fun c => ?_)
          · have cd : decide (q_tk (mI S 14 0) m np k >>> (nI n &&& 31) &&& 1 = 0) = true := decide_eq_true c
            refine e_walk (stops := [53]) 1 ?_
            refine q_X5_couldPlay (p := n) hv1 (by omega) hm hk4 ?_
            rw [hv0]
            cases hcd : q_could (mI S 14 0) n m k with
            | false =>
              refine e_walk (stops := [61]) 10 ?_
              refine And.intro (fun c => no _ (by rw [hcd, Bool.and_false])) (fun c => absurd rfl c)
            | true =>
              refine e_walk (stops := [82]) 20 ?_
              refine And.intro (fun c => absurd c (by decide)) (fun c => ?_)
              refine And.intro (fun c => absurd c (by decide)) (fun c => ?_)
              refine And.intro (q_in (n := k) rfl (show k < 4 from hk4) (by decide)) ?_
              show e_Run tb_X5_lineUp post e_no 82 [some (aR 13 0), some (aI (nI m)), some (aI (q_tk (mI S 14 0) m np k)), some (aI (nI (q_sh (mI S 14 0) m np k))), some (aI (nI k)), some (aI (nI n)), some (aI 1)] [aI (-1), aI (mI S1 14 5 (nI k).toNatClampNeg), aI (nI k), aR 14 5] S1 0 0
              rw [hx]
              rcases q_bst_cases (mI S 14 0) m k (q_tk (mI S 14 0) m np k) n with hb | ⟨j, hj, hb⟩
              · rw [hb]
                refine e_walk (stops := [119]) 20 ?_
                refine And.intro (fun c => ?_) (fun c => absurd rfl c)
                refine fin _ _ ?_
                rw [q_bst, cd, hcd, hb]
                rfl
              · have hbne : ¬ nI j = -1 := by
                  intro z
                  have := congrArg Int32.toInt z
                  rw [nI_toInt (by omega)] at this
                  exact absurd this (by show ¬ (j : Int) = -1; omega)
                rw [hb]
                refine e_walk (stops := [92]) 9 ?_
                refine And.intro (fun c => absurd c hbne) (fun c => ?_)
                refine q_X5_of (w := 2) hn10 (by decide) ?_
                refine e_walk (stops := [101]) 10 ?_
                refine And.intro (q_in (n := k) rfl (show k < 4 from hk4) (by decide)) ?_
                show e_Run tb_X5_lineUp post e_no 101 [some (aR 13 0), some (aI (nI m)), some (aI (q_tk (mI S 14 0) m np k)), some (aI (nI (q_sh (mI S 14 0) m np k))), some (aI (nI k)), some (aI (nI n)), some (aI 1)] [aI 2, aI (mI S1 14 5 (nI k).toNatClampNeg), aR 13 0, aI (q_of (mI S1 14 0) n 2), aI (nI k), aR 14 5] S1 0 0
                rw [hx, hb]
                refine e_walk (stops := [104]) 1 ?_
                refine q_X5_of (p := j) (w := 2) (by omega) (by decide) ?_
                rw [hv0]
                refine e_walk (stops := [119]) 10 ?_
                refine And.intro (fun c => ?_) (fun c => ?_)
                · refine And.intro (q_in (n := k) rfl (show k < 4 from hk4) (by decide)) ?_
                  refine fin _ _ ?_
                  rw [hx, q_bst, cd, hcd, hb, decide_eq_false hbne, nI_clamp (by omega), decide_eq_false (Int32.not_lt.mpr c)]
                  rfl
                · refine fin _ _ ?_
                  rw [q_bst, cd, hcd, hb, decide_eq_false hbne, nI_clamp (by omega), decide_eq_true (Int32.not_le.mp c)]
                  rfl
          · have cd : decide (q_tk (mI S 14 0) m np k >>> (nI n &&& 31) &&& 1 = 0) = false := decide_eq_false c
            refine e_walk (stops := [61]) 3 ?_
            exact no _ (by rw [cd, Bool.false_and])
      refine inner np 0 (by omega) _ h1.set (fun j hj => ?_) ?_ _
      · rw [q_sI, if_neg (by omega)]
        exact h2 j hj
      · rw [q_sI, if_pos rfl]
        rfl
  refine e_walk (stops := [7]) 10 ?_
  exact outer 4 0 rfl S q_fr1.rf (fun j hj => absurd hj (by omega)) _ _
theorem q_X5_put {S : eM} {post : eQ} {p w : Nat} {x : Int32} (hp : p < 10) (hw : w < 7) (h : post none (sI S 14 0 (16 + 7 * p + w) x)) : w_X5_put [aR 13 0, aI (nI p), aI (nI w), aI x] S post := by
  have e : (nI 16 + nI 7 * nI p) + nI w = nI (16 + 7 * p + w) := by rw [nI_mul, nI_add, nI_add]
  refine e_walk (stops := []) 20 ?_
  refine And.intro (q_in e (show 16 + 7 * p + w < 146 by omega) (by decide)) ?_
  show post none (sI S 14 0 ((nI 16 + nI 7 * nI p) + nI w).toNatClampNeg x)
  rw [q_cl e (by omega)]
  exact h
theorem q_X5_lay {S : eM} {post : eQ} {i w : Nat} {x : Int32} (hi : i < 10) (hw : w < 5) (h : post none (sI S 14 0 (86 + 5 * i + w) x)) : w_X5_lay [aR 13 0, aI (nI i), aI (nI w), aI x] S post := by
  have e : (nI 86 + nI 5 * nI i) + nI w = nI (86 + 5 * i + w) := by rw [nI_mul, nI_add, nI_add]
  refine e_walk (stops := []) 20 ?_
  refine And.intro (q_in e (show 86 + 5 * i + w < 146 by omega) (by decide)) ?_
  show post none (sI S 14 0 ((nI 86 + nI 5 * nI i) + nI w).toNatClampNeg x)
  rw [q_cl e (by omega)]
  exact h
/-- a number is an index below n -/
def q_ix (x : Int32) (n : Nat) : Bool := decide (¬ x < 0) && decide (x < nI n)
theorem q_ix_of {x : Int32} {n : Nat} (hn : n ≤ 65536) (h : q_ix x n = true) : ∃ k, k < n ∧ x = nI k := by
  unfold q_ix at h
  rw [Bool.and_eq_true] at h
  have h1 := of_decide_eq_true h.1
  have h2 := of_decide_eq_true h.2
  obtain ⟨k, hk, rfl⟩ := nI_of h1
  exact ⟨k, (nI_ltI hk (by omega)).mp h2, rfl⟩
theorem q_ix_mk {k n : Nat} (hn : n ≤ 65536) (h : k < n) : q_ix (nI k) n = true := by
  unfold q_ix
  rw [decide_eq_true (nI_pos (by omega)), decide_eq_true (nI_lt h (by omega))]
  rfl
theorem q_hi {x : Int32} {n : Nat} (hn : n ≤ 65536) : decide (¬ nI n - 1 < x) = decide (x < nI n) := by
  refine decide_eq_decide.mpr ?_
  have e : (nI n - 1).toInt = (n : Int) - 1 := by
    rcases Nat.eq_zero_or_pos n with rfl | h
    · decide
    · rw [q_pred h, nI_toInt (by omega)]
      omega
  rw [Int32.not_lt, Int32.le_iff_toInt_le, Int32.lt_iff_toInt_lt, e, nI_toInt (by omega)]
  omega
theorem q_X5_in {S : eM} {post : eQ} {x lo hi : Int32} (h : post (some (aI (cond (decide (¬ x < lo) && decide (¬ hi < x)) 1 0))) S) : w_X5_in [aI x, aI lo, aI hi] S post := by
  refine e_walk (stops := []) 20 ?_
  refine And.intro (fun c => ?_) (fun c => ?_)
  · rw [decide_eq_false (show ¬ ¬ x < lo from fun z => z c)] at h
    exact h
  · rw [decide_eq_true (show ¬ x < lo from c), Bool.true_and] at h
    refine And.intro (fun c => ?_) (fun c => ?_)
    · rw [decide_eq_false (show ¬ ¬ hi < x from fun z => z c)] at h
      exact h
    · rw [decide_eq_true (show ¬ hi < x from c)] at h
      exact h
theorem q_X5_isPupil {S : eM} {post : eQ} {x : Int32} {np ni : Nat} (hv : q_ok0 (mI S 14 0) np ni) (h : post (some (aI (cond (q_ix x np) 1 0))) S) : w_X5_isPupil [aR 13 0, aI x] S post := by
  refine e_walk (stops := [10]) 20 ?_
  show e_Run tb_X5_isPupil post e_no 10 [some (aR 13 0), some (aI x)] [aI (mI S 14 0 0 - 1), aI 0, aI x] S 0 0
  rw [hv.2.2.1]
  refine e_walk (stops := [13]) 1 ?_
  refine q_X5_in ?_
  have hnp := hv.1
  rw [q_hi (by omega), show (decide (¬ x < 0) && decide (x < nI np)) = q_ix x np from rfl]
  refine e_walk (stops := []) 2 ?_
  cases hz : q_ix x np <;> rw [hz] at h <;> exact h
theorem q_X5_isInstrument {S : eM} {post : eQ} {x : Int32} {np ni : Nat} (hv : q_ok0 (mI S 14 0) np ni) (h : post (some (aI (cond (q_ix x ni) 1 0))) S) : w_X5_isInstrument [aR 13 0, aI x] S post := by
  refine e_walk (stops := [10]) 20 ?_
  show e_Run tb_X5_isInstrument post e_no 10 [some (aR 13 0), some (aI x)] [aI (mI S 14 0 1 - 1), aI 0, aI x] S 0 0
  rw [hv.2.2.2.1]
  refine e_walk (stops := [13]) 1 ?_
  refine q_X5_in ?_
  have hni := hv.2.1
  rw [q_hi (by omega), show (decide (¬ x < 0) && decide (x < nI ni)) = q_ix x ni from rfl]
  refine e_walk (stops := []) 2 ?_
  cases hz : q_ix x ni <;> rw [hz] at h <;> exact h
theorem q_X5_isTeacher {S : eM} {post : eQ} {x : Int32} (h : post (some (aI (cond (q_ix x 3) 1 0))) S) : w_X5_isTeacher [aI x] S post := by
  refine e_walk (stops := [6]) 20 ?_
  refine q_X5_in ?_
  rw [show (2 : Int32) = nI 3 - 1 by decide, q_hi (by decide), show (decide (¬ x < 0) && decide (x < nI 3)) = q_ix x 3 from rfl]
  refine e_walk (stops := []) 2 ?_
  cases hz : q_ix x 3 <;> rw [hz] at h <;> exact h
theorem q_X5_isMarch {S : eM} {post : eQ} {x : Int32} (h : post (some (aI (cond (q_ix x 4) 1 0))) S) : w_X5_isMarch [aI x] S post := by
  refine e_walk (stops := [6]) 20 ?_
  refine q_X5_in ?_
  rw [show (3 : Int32) = nI 4 - 1 by decide, q_hi (by decide), show (decide (¬ x < 0) && decide (x < nI 4)) = q_ix x 4 from rfl]
  refine e_walk (stops := []) 2 ?_
  cases hz : q_ix x 4 <;> rw [hz] at h <;> exact h
/-- what the last call threw -/
theorem q_X5_holds {S : eM} {post : eQ} {x : Int32} (h : post (some (aI (cond (decide (x = 0)) 1 0))) (sI S 13 0 8 x)) : w_X5_holds [aR 13 0, aI x] S post := by
  refine e_walk (stops := []) 20 ?_
  refine And.intro (fun c => ?_) (fun c => ?_)
  · rw [decide_eq_true (show x = 0 from c)] at h
    exact h
  · rw [decide_eq_false (show ¬ x = 0 from c)] at h
    exact h
def q_sun (v : qV) : Bool := decide (v 3 - v 3 / 7 * 7 = 6)
theorem q_X5_isSunday {S : eM} {post : eQ} (h : post (some (aI (cond (q_sun (mI S 14 0)) 1 0))) S) : w_X5_isSunday [aR 13 0] S post := by
  refine e_walk (stops := []) 20 ?_
  refine And.intro (by decide) ?_
  unfold q_sun at h
  refine And.intro (fun c => ?_) (fun c => ?_)
  · rw [decide_eq_true (show mI S 14 0 3 - mI S 14 0 3 / 7 * 7 = 6 from c)] at h
    exact h
  · rw [decide_eq_false (show ¬ mI S 14 0 3 - mI S 14 0 3 / 7 * 7 = 6 from c)] at h
    exact h
theorem q_X5_heightOf {S : eM} {post : eQ} {t : Nat} (h : post (some (aI (nI (8 + 6 * t)))) S) : w_X5_heightOf [aI (nI t)] S post := by
  refine e_walk (stops := []) 20 ?_
  show post (some (aI (nI 8 + nI 6 * nI t))) S
  rw [nI_mul, nI_add]
  exact h
def q_fee (t : Nat) : Nat := if t = 0 then 10 else if t = 1 then 25 else 60
theorem q_X5_feeOf {S : eM} {post : eQ} {t : Nat} (ht : t < 3) (h : post (some (aI (nI (q_fee t)))) S) : w_X5_feeOf [aI (nI t)] S post := by
  refine e_walk (stops := []) 20 ?_
  rcases (show t = 0 ∨ t = 1 ∨ t = 2 by omega) with rfl | rfl | rfl
  · exact And.intro (fun c => h) (fun c => absurd rfl c)
  · exact And.intro (fun c => absurd c (by decide)) (fun c => And.intro (fun c => h) (fun c => absurd rfl c))
  · exact And.intro (fun c => absurd c (by decide)) (fun c => And.intro (fun c => absurd c (by decide)) (fun c => h))
/-- why an instrument is not lent to a pupil -/
def q_whyLoan (v : qV) (i p : Nat) : Nat := if 0 < q_its v i 2 then 1 else if 0 < q_of v p 4 then 2 else if ¬ q_its v i 1 < 5 then 3 else if v 14 < q_of v p 3 then 4 else if q_of v p 0 < 3 * q_its v i 0 + 5 then 5 else 0
theorem q_X5_reasonOfLoan {S : eM} {post : eQ} {i p : Nat} (hi : i < 10) (hp : p < 10) (h : post (some (aI (nI (q_whyLoan (mI S 14 0) i p)))) S) : w_X5_reasonOfLoan [aR 13 0, aI (nI i), aI (nI p)] S post := by
  unfold q_whyLoan at h
  refine e_walk (stops := [6]) 20 ?_
  refine q_X5_its (w := 2) hi (by decide) ?_
  refine e_walk (stops := [17]) 20 ?_
  refine And.intro (fun c => ?_) (fun c => ?_)
  · rw [if_neg (Int32.not_lt.mpr c)] at h
    refine q_X5_of (w := 4) hp (by decide) ?_
    refine e_walk (stops := [27]) 20 ?_
    refine And.intro (fun c => ?_) (fun c => ?_)
    · rw [if_neg (Int32.not_lt.mpr c)] at h
      refine q_X5_canBePlayed hi ?_
      refine e_walk (stops := [38]) 20 ?_
      by_cases z : q_its (mI S 14 0) i 1 < 5
      · rw [decide_eq_true z]
        rw [if_neg (fun y => y z)] at h
        refine And.intro (fun c => absurd c (by decide)) (fun c => ?_)
        refine q_X5_of (w := 3) hp (by decide) ?_
        refine e_walk (stops := [58]) 20 ?_
        refine And.intro (fun c => ?_) (fun c => ?_)
        · rw [if_neg (Int32.not_lt.mpr c)] at h
          refine q_X5_of (w := 0) hp (by decide) ?_
          refine e_walk (stops := [65]) 20 ?_
          refine q_X5_its (w := 0) hi (by decide) ?_
          refine e_walk (stops := []) 20 ?_
          refine And.intro (fun c => ?_) (fun c => ?_)
          · rw [if_neg (Int32.not_lt.mpr c)] at h
            exact h
          · rw [if_pos (Int32.not_le.mp c)] at h
            exact h
        · rw [if_pos (Int32.not_le.mp c)] at h
          exact h
      · rw [decide_eq_false z]
        rw [if_pos z] at h
        exact And.intro (fun c => h) (fun c => absurd rfl c)
    · rw [if_pos (Int32.not_le.mp c)] at h
      exact h
  · rw [if_pos (Int32.not_le.mp c)] at h
    exact h
/-- why a teacher does not teach a pupil -/
def q_whyLesson (v : qV) (p t : Nat) : Nat := if q_plays v p = false then 1 else if q_of v p 5 = 1 then 2 else if ¬ q_of v p 2 < nI (8 + 6 * t) then 3 else if q_of v p 1 < 3 + q_its v (q_has v p - 1) 0 then 4 else 0
theorem q_X5_reasonOfLesson {S : eM} {post : eQ} {p t np ni : Nat} (hv : q_ok0 (mI S 14 0) np ni) (hp : p < np) (h : post (some (aI (nI (q_whyLesson (mI S 14 0) p t)))) S) : w_X5_reasonOfLesson [aR 13 0, aI (nI p), aI (nI t)] S post := by
  unfold q_whyLesson at h
  have hp10 : p < 10 := Nat.lt_of_lt_of_le hp hv.1
  refine e_walk (stops := [5]) 20 ?_
  refine q_X5_canPlay hv hp ?_
  refine e_walk (stops := [16]) 20 ?_
  cases z : q_plays (mI S 14 0) p with
  | false =>
    rw [if_pos z] at h
    exact And.intro (fun c => h) (fun c => absurd rfl c)
  | true =>
    rw [if_neg (by rw [z]; decide)] at h
    refine And.intro (fun c => absurd c (by decide)) (fun c => ?_)
    refine q_X5_of (w := 5) hp10 (by decide) ?_
    refine e_walk (stops := [28]) 20 ?_
    refine And.intro (fun c => ?_) (fun c => ?_)
    · rw [if_pos (show q_of (mI S 14 0) p 5 = 1 from c)] at h
      exact h
    · rw [if_neg (show ¬ q_of (mI S 14 0) p 5 = 1 from c)] at h
      refine q_X5_of (w := 2) hp10 (by decide) ?_
      refine e_walk (stops := [32]) 20 ?_
      refine q_X5_heightOf ?_
      refine e_walk (stops := [45]) 20 ?_
      refine And.intro (fun c => ?_) (fun c => ?_)
      · rw [if_neg (fun y => y c)] at h
        refine q_X5_of (w := 1) hp10 (by decide) ?_
        refine e_walk (stops := [51]) 20 ?_
        refine q_X5_kindOf hv hp (q_plays_pos z) ?_
        refine e_walk (stops := []) 20 ?_
        refine And.intro (fun c => ?_) (fun c => ?_)
        · rw [if_neg (Int32.not_lt.mpr c)] at h
          exact h
        · rw [if_pos (Int32.not_le.mp c)] at h
          exact h
      · rw [if_pos c] at h
        exact h
/-- what a march brings -/
def q_pence (v : qV) (n : Nat) : Int32 := v 15 * (4 - nI n) * cond (decide (n = 0)) 2 1
theorem q_X5_penceOf {S : eM} {post : eQ} {np ni m : Nat} (hv : q_ok0 (mI S 14 0) np ni) (hm : m < 4) (hp : ∀ S2, q_fr1 5 S S2 → (∀ j, j < 4 → mI S2 14 5 j = q_pl (mI S 14 0) m np j) → post (some (aI (q_pence (mI S 14 0) (q_sh (mI S 14 0) m np 4)))) S2) : w_X5_penceOf [aR 13 0, aI (nI m)] S post := by
  refine e_walk (stops := [5]) 20 ?_
  refine q_X5_lineUp hv hm (fun S2 h1 h2 => ?_)
  have h3 := hp S2 h1 h2
  have e : mI S2 14 0 15 = mI S 14 0 15 := by rw [h1.1 14 0 (by decide)]
  have hb : ∀ k, q_sh (mI S 14 0) m np k ≤ k := by
    intro k
    induction k with
    | zero => exact Nat.le_refl _
    | succ k ih =>
      rw [q_sh]
      cases decide (q_pl (mI S 14 0) m np k = -1) with
      | true => exact Nat.succ_le_succ ih
      | false => exact Nat.le_succ_of_le ih
  have hb4 := hb 4
  generalize hn : q_sh (mI S 14 0) m np 4 = n at h3 hb4 ⊢
  unfold q_pence at h3
  rw [← e] at h3
  refine e_walk (stops := []) 30 ?_
  refine And.intro (fun c => ?_) (fun c => ?_)
  · have : n = 0 := Nat.eq_zero_of_not_pos (fun z => nI_ne0 z (by omega) c)
    rw [decide_eq_true this] at h3
    exact h3
  · have : ¬ n = 0 := fun z => c (by rw [z]; rfl)
    rw [decide_eq_false this] at h3
    exact h3
theorem q_ue {f : Nat → Int32} {k : Nat} {x : Int32} : upd f k x k = x := if_pos rfl
theorem q_un {f : Nat → Int32} {k j : Nat} {x : Int32} (h : j ≠ k) : upd f k x j = f j := if_neg h
theorem q_ok0.upd {v : qV} {np ni k : Nat} {x : Int32} (h : q_ok0 v np ni) (hk : 2 ≤ k) (hh : ∀ p, p < 10 → k ≠ 16 + 7 * p + 4) : q_ok0 (upd v k x) np ni := by
  obtain ⟨h1, h2, h3, h4, h5⟩ := h
  refine ⟨h1, h2, by rw [q_un (by omega)]; exact h3, by rw [q_un (by omega)]; exact h4, fun p hp => ?_⟩
  obtain ⟨n, n1, n2⟩ := h5 p hp
  exact ⟨n, n1, by rw [show q_of (Jvm.Pilot.CBandCornetsLaw_law_r9857_f8e58a.upd v k x) p 4 = q_of v p 4 from q_un (fun z => hh p (by omega) z.symm)]; exact n2⟩
theorem q_has_upd {v : qV} {k p : Nat} {x : Int32} (hh : k ≠ 16 + 7 * p + 4) : q_has (upd v k x) p = q_has v p := by
  unfold q_has
  rw [show q_of (upd v k x) p 4 = q_of v p 4 from q_un (fun z => hh z.symm)]
/-- dents come -/
def q_dn (v : qV) (i : Nat) (more : Int32) : Int32 := if 9 < q_its v i 1 + more then 9 else q_its v i 1 + more
def q_dents (v : qV) (i : Nat) (more : Int32) : qV := upd (upd v (86 + 5 * i + 1) (q_dn v i more)) (86 + 5 * i + 4) (if 0 < q_its v i 2 then q_its v i 4 + q_dn v i more - q_its v i 1 else 0)
theorem q_X5_dents {S : eM} {post : eQ} {i : Nat} {more : Int32} (hi : i < 10) (h : ∀ S2, q_fr1 0 S S2 → mI S2 14 0 = q_dents (mI S 14 0) i more → post none S2) : w_X5_dents [aR 13 0, aI (nI i), aI more] S post := by
  have key : ∀ (now : Int32), now = q_dn (mI S 14 0) i more → e_Run tb_X5_dents post e_no 23 [some (aR 13 0), some (aI (nI i)), some (aI more), some (aI (q_its (mI S 14 0) i 1)), none] [aI now] S 0 0 := by
    intro now hn
    refine e_walk (stops := [33]) 20 ?_
    refine q_X5_lay (w := 1) hi (by decide) ?_
    have e2 : q_its (mI (sI S 14 0 (86 + 5 * i + 1) now) 14 0) i 2 = q_its (mI S 14 0) i 2 := by rw [q_its, e_updI]; exact q_un (by omega)
    have e4 : q_its (mI (sI S 14 0 (86 + 5 * i + 1) now) 14 0) i 4 = q_its (mI S 14 0) i 4 := by rw [q_its, e_updI]; exact q_un (by omega)
    have hh := h
    unfold q_dents at h
    rw [← hn] at h
    refine e_walk (stops := [42]) 20 ?_
    refine q_X5_its (w := 2) hi (by decide) ?_
    rw [e2]
    refine e_walk (stops := [51, 63]) 20 ?_
    refine And.intro (fun c => ?_) (fun c => ?_)
    · rw [if_neg (Int32.not_lt.mpr c)] at h
      refine q_X5_lay (w := 4) hi (by decide) ?_
      refine e_walk (stops := []) 3 ?_
      exact h _ q_fr1.rf.set.set (by rw [e_updI, e_updI])
    · rw [if_pos (Int32.not_le.mp c)] at h
      refine q_X5_its (w := 4) hi (by decide) ?_
      rw [e4]
      refine e_walk (stops := [63]) 20 ?_
      refine q_X5_lay (w := 4) hi (by decide) ?_
      refine e_walk (stops := []) 3 ?_
      exact h _ q_fr1.rf.set.set (by rw [e_updI, e_updI])
  refine e_walk (stops := [6]) 20 ?_
  refine q_X5_its (w := 1) hi (by decide) ?_
  refine e_walk (stops := [23]) 20 ?_
  refine And.intro (fun c => ?_) (fun c => ?_)
  · exact key _ (by unfold q_dn; rw [if_neg (Int32.not_lt.mpr c)])
  · exact key _ (by unfold q_dn; rw [if_pos (Int32.not_le.mp c)])
def q_mend (v : qV) (i : Nat) : qV := upd (upd (upd v (86 + 5 * i + 1) 0) 12 (v 12 + 15 * q_its v i 1)) 8 (v 8 - 15 * q_its v i 1)
theorem q_X5_doMend {S : eM} {post : eQ} {i : Nat} (hi : i < 10) (h : ∀ S2, q_fr1 0 S S2 → mI S2 14 0 = q_mend (mI S 14 0) i → post (some (aI (15 * q_its (mI S 14 0) i 1))) S2) : w_X5_doMend [aR 13 0, aI (nI i)] S post := by
  refine e_walk (stops := [8]) 20 ?_
  refine q_X5_its (w := 1) hi (by decide) ?_
  refine e_walk (stops := [17]) 20 ?_
  refine q_X5_lay (w := 1) hi (by decide) ?_
  refine e_walk (stops := []) 40 ?_
  refine And.intro (show vp_in 12 146 from q_in (n := 12) rfl (by decide) (by decide)) (And.intro (show vp_in 12 146 from q_in (n := 12) rfl (by decide) (by decide)) (And.intro (show vp_in 8 146 from q_in (n := 8) rfl (by decide) (by decide)) (And.intro (show vp_in 8 146 from q_in (n := 8) rfl (by decide) (by decide)) ?_)))
  refine h _ q_fr1.rf.set.set.set ?_
  rw [e_updI, e_updI, e_updI]
  unfold q_mend
  rw [show ((8 : Int32)).toNatClampNeg = 8 by decide, show ((12 : Int32)).toNatClampNeg = 12 by decide]
  show upd (upd (upd (mI S 14 0) (86 + 5 * i + 1) 0) 12 (upd (mI S 14 0) (86 + 5 * i + 1) 0 12 + 15 * q_its (mI S 14 0) i 1)) 8 (upd (upd (mI S 14 0) (86 + 5 * i + 1) 0) 12 (upd (mI S 14 0) (86 + 5 * i + 1) 0 12 + 15 * q_its (mI S 14 0) i 1) 8 - 15 * q_its (mI S 14 0) i 1) = _
  rw [q_un (show (8 : Nat) ≠ 12 by decide), q_un (show (8 : Nat) ≠ 86 + 5 * i + 1 by omega), q_un (show (12 : Nat) ≠ 86 + 5 * i + 1 by omega)]
def q_lend (v : qV) (nl i p : Nat) : qV := upd (upd (upd (upd (upd v (86 + 5 * i + 2) (nI (p + 1))) (86 + 5 * i + 4) 0) (16 + 7 * p + 4) (nI (i + 1))) (136 + nl) (nI i)) 2 (nI (nl + 1))
theorem q_X5_doLend {S : eM} {post : eQ} {i p nl : Nat} (hi : i < 10) (hp : p < 10) (hl : nl < 10) (hv : mI S 14 0 2 = nI nl) (h : ∀ S2, q_fr1 0 S S2 → mI S2 14 0 = q_lend (mI S 14 0) nl i p → post (some (aI (nI (nl + 1)))) S2) : w_X5_doLend [aR 13 0, aI (nI i), aI (nI p)] S post := by
  refine e_walk (stops := [9]) 20 ?_
  refine q_X5_lay (w := 2) hi (by decide) ?_
  refine e_walk (stops := [16]) 20 ?_
  refine q_X5_lay (w := 4) hi (by decide) ?_
  refine e_walk (stops := [25]) 20 ?_
  refine q_X5_put (w := 4) hp (by decide) ?_
  show e_Run tb_X5_doLend post e_no 25 [some (aR 13 0), some (aI (nI i)), some (aI (nI p))] [] (sI (sI (sI S 14 0 (86 + 5 * i + 2) (nI p + 1)) 14 0 (86 + 5 * i + 4) 0) 14 0 (16 + 7 * p + 4) (nI i + 1)) 0 0
  rw [nI_1, nI_1]
  generalize hS : sI (sI (sI S 14 0 (86 + 5 * i + 2) (nI (p + 1))) 14 0 (86 + 5 * i + 4) 0) 14 0 (16 + 7 * p + 4) (nI (i + 1)) = S1
  have e1 : mI S1 14 0 = upd (upd (upd (mI S 14 0) (86 + 5 * i + 2) (nI (p + 1))) (86 + 5 * i + 4) 0) (16 + 7 * p + 4) (nI (i + 1)) := by rw [← hS, e_updI, e_updI, e_updI]
  have f1 : q_fr1 0 S S1 := by rw [← hS]; exact q_fr1.rf.set.set.set
  have e2 : mI S1 14 0 2 = nI nl := by rw [e1, q_un (by omega), q_un (by omega), q_un (by omega)]; exact hv
  have e3 : (nI 136 + nI nl).toNatClampNeg = 136 + nl := by rw [nI_add, nI_clamp (by omega)]
  refine e_walk (stops := [38]) 20 ?_
  show e_Run tb_X5_doLend post e_no 38 [some (aR 13 0), some (aI (nI i)), some (aI (nI p))] [aI (mI S1 14 0 2), aI (nI 136), aR 14 0] S1 0 0
  rw [e2]
  refine e_walk (stops := [41]) 20 ?_
  refine And.intro (q_in (nI_add 136 nl) (show 136 + nl < 146 by omega) (by decide)) ?_
  show e_Run tb_X5_doLend post e_no 41 [some (aR 13 0), some (aI (nI i)), some (aI (nI p))] [] (sI S1 14 0 (nI 136 + nI nl).toNatClampNeg (nI i)) 0 0
  rw [e3]
  generalize hS3 : sI S1 14 0 (136 + nl) (nI i) = S3
  have e5 : mI S3 14 0 2 = nI nl := by rw [← hS3, e_updI, q_un (by omega)]; exact e2
  refine e_walk (stops := []) 40 ?_
  refine And.intro (show vp_in 2 146 from q_in (n := 2) rfl (by decide) (by decide)) (And.intro (show vp_in 2 146 from q_in (n := 2) rfl (by decide) (by decide)) ?_)
  show post (some (aI (mI (sI S3 14 0 2 (mI S3 14 0 2 + 1)) 14 0 2))) (sI S3 14 0 2 (mI S3 14 0 2 + 1))
  rw [e5, nI_1, e_updI, q_ue]
  refine h _ (by rw [← hS3]; exact f1.set.set) ?_
  rw [e_updI, ← hS3, e_updI, e1]
  rfl
def q_teach (v : qV) (p t : Nat) : qV := upd (upd (upd (upd (upd (upd v (16 + 7 * p + 2) (q_of v p 2 + 1)) (16 + 7 * p + 1) (q_of v p 1 - 3 - q_its v (q_has v p - 1) 0)) (16 + 7 * p + 5) 1) 5 (v 5 + 1)) 11 (v 11 + nI (q_fee t))) 8 (v 8 - nI (q_fee t))
theorem q_X5_doTeach {S : eM} {post : eQ} {p t np ni : Nat} (hv : q_ok0 (mI S 14 0) np ni) (hp : p < np) (ht : t < 3) (h0 : 0 < q_has (mI S 14 0) p) (h : ∀ S2, q_fr1 0 S S2 → mI S2 14 0 = q_teach (mI S 14 0) p t → post (some (aI (q_of (mI S 14 0) p 2 + 1))) S2) : w_X5_doTeach [aR 13 0, aI (nI p), aI (nI t)] S post := by
  have hp10 : p < 10 := Nat.lt_of_lt_of_le hp hv.1
  obtain ⟨g1, g2, g3⟩ := hv.has hp
  refine e_walk (stops := [9]) 20 ?_
  refine q_X5_of (w := 2) hp10 (by decide) ?_
  refine e_walk (stops := [14]) 20 ?_
  refine q_X5_put (w := 2) hp10 (by decide) ?_
  generalize hS1 : sI S 14 0 (16 + 7 * p + 2) (q_of (mI S 14 0) p 2 + 1) = S1
  have f1 : q_fr1 0 S S1 := by rw [← hS1]; exact q_fr1.rf.set
  have e1 : mI S1 14 0 = upd (mI S 14 0) (16 + 7 * p + 2) (q_of (mI S 14 0) p 2 + 1) := by rw [← hS1, e_updI]
  have v1 : q_ok0 (mI S1 14 0) np ni := by rw [e1]; exact hv.upd (by omega) (fun _ _ => by omega)
  have b1 : q_of (mI S1 14 0) p 1 = q_of (mI S 14 0) p 1 := by rw [q_of, e1]; exact q_un (by omega)
  have k1 : q_has (mI S1 14 0) p = q_has (mI S 14 0) p := by rw [e1]; exact q_has_upd (by omega)
  have c1 : q_its (mI S1 14 0) (q_has (mI S 14 0) p - 1) 0 = q_its (mI S 14 0) (q_has (mI S 14 0) p - 1) 0 := by rw [q_its, e1]; exact q_un (by omega)
  refine e_walk (stops := [23]) 20 ?_
  refine q_X5_of (w := 1) hp10 (by decide) ?_
  rw [b1]
  refine e_walk (stops := [30]) 20 ?_
  refine q_X5_kindOf v1 hp (by rw [k1]; exact h0) ?_
  rw [k1, c1]
  refine e_walk (stops := [34]) 20 ?_
  refine q_X5_put (w := 1) hp10 (by decide) ?_
  refine e_walk (stops := [41]) 20 ?_
  refine q_X5_put (w := 5) hp10 (by decide) ?_
  have c5 : ((5 : Int32)).toNatClampNeg = 5 := by decide
  have c11 : ((11 : Int32)).toNatClampNeg = 11 := by decide
  have c8 : ((8 : Int32)).toNatClampNeg = 8 := by decide
  refine e_walk (stops := [63]) 40 ?_
  refine And.intro (show vp_in 5 146 from q_in (n := 5) rfl (by decide) (by decide)) (And.intro (show vp_in 5 146 from q_in (n := 5) rfl (by decide) (by decide)) (And.intro (show vp_in 11 146 from q_in (n := 11) rfl (by decide) (by decide)) ?_))
  refine q_X5_feeOf ht ?_
  refine e_walk (stops := [77]) 40 ?_
  refine And.intro (show vp_in 11 146 from q_in (n := 11) rfl (by decide) (by decide)) (And.intro (show vp_in 8 146 from q_in (n := 8) rfl (by decide) (by decide)) ?_)
  refine q_X5_feeOf ht ?_
  refine e_walk (stops := [85]) 40 ?_
  refine And.intro (show vp_in 8 146 from q_in (n := 8) rfl (by decide) (by decide)) ?_
  refine q_X5_of (w := 2) hp10 (by decide) ?_
  refine e_walk (stops := []) 3 ?_
  rw [c5, c11, c8]
  generalize hS2 : sI (sI S1 14 0 (16 + 7 * p + 1) (q_of (mI S 14 0) p 1 - 3 - q_its (mI S 14 0) (q_has (mI S 14 0) p - 1) 0)) 14 0 (16 + 7 * p + 5) 1 = S2
  have e2 : mI S2 14 0 = upd (upd (upd (mI S 14 0) (16 + 7 * p + 2) (q_of (mI S 14 0) p 2 + 1)) (16 + 7 * p + 1) (q_of (mI S 14 0) p 1 - 3 - q_its (mI S 14 0) (q_has (mI S 14 0) p - 1) 0)) (16 + 7 * p + 5) 1 := by rw [← hS2, e_updI, e_updI, e1]
  have f2 : q_fr1 0 S S2 := by rw [← hS2]; exact f1.set.set
  have r5 : mI S2 14 0 5 = mI S 14 0 5 := by rw [e2, q_un (by omega), q_un (by omega), q_un (by omega)]
  generalize hS3 : sI S2 14 0 5 (mI S2 14 0 5 + 1) = S3
  have e3 : mI S3 14 0 = upd (mI S2 14 0) 5 (mI S 14 0 5 + 1) := by rw [← hS3, e_updI, r5]
  have r11 : mI S3 14 0 11 = mI S 14 0 11 := by rw [e3, q_un (by omega), e2, q_un (by omega), q_un (by omega), q_un (by omega)]
  generalize hS4 : sI S3 14 0 11 (mI S3 14 0 11 + nI (q_fee t)) = S4
  have e4 : mI S4 14 0 = upd (mI S3 14 0) 11 (mI S 14 0 11 + nI (q_fee t)) := by rw [← hS4, e_updI, r11]
  have r8 : mI S4 14 0 8 = mI S 14 0 8 := by rw [e4, q_un (by omega), e3, q_un (by omega), e2, q_un (by omega), q_un (by omega), q_un (by omega)]
  have r2 : q_of (mI (sI S4 14 0 8 (mI S4 14 0 8 - nI (q_fee t))) 14 0) p 2 = q_of (mI S 14 0) p 2 + 1 := by rw [q_of, e_updI, q_un (by omega), e4, q_un (by omega), e3, q_un (by omega), e2, q_un (by omega), q_un (by omega), q_ue]
  show post (some (aI (q_of (mI (sI S4 14 0 8 (mI S4 14 0 8 - nI (q_fee t))) 14 0) p 2))) (sI S4 14 0 8 (mI S4 14 0 8 - nI (q_fee t)))
  rw [r2]
  refine h _ (by rw [← hS4, ← hS3]; exact f2.set.set.set) ?_
  rw [e_updI, r8, e4, e3, e2]
  rfl
