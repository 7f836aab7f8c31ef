/-! What walks come to, 1: ground. Own work. -/
theorem e_ln14 (x : Nat) : e_ln 14 x ≤ 876 := by
  rcases x with _ | _ | _ | _ | _ | x
  · decide
  · decide
  · decide
  · decide
  · decide
  · exact (by decide : 4 ≤ 876)
theorem nI_mul (a b : Nat) : nI a * nI b = nI (a * b) := (Int32.ofNat_mul a b).symm
theorem q_in {x : Int32} {n L : Nat} (hx : x = nI n) (h : n < L) (hL : L ≤ 65536) : vp_in x L := by subst hx; exact nI_in h (by omega)
theorem q_cl {x : Int32} {n : Nat} (hx : x = nI n) (h : n < 65536) : x.toNatClampNeg = n := by subst hx; exact nI_clamp (by omega)
/-- the reference's row of numbers -/
abbrev qV : Type := Nat → Int32
abbrev q_of (v : qV) (p w : Nat) : Int32 := v (16 + 7 * p + w)
abbrev q_its (v : qV) (i w : Nat) : Int32 := v (86 + 5 * i + w)
def q_sm (B : Nat) (x : Int32) : Prop := ∃ n, n ≤ B ∧ x = nI n
def q_has (v : qV) (p : Nat) : Nat := (q_of v p 4).toNatClampNeg
def q_plays (v : qV) (p : Nat) : Bool := decide (0 < q_has v p) && decide (q_its v (q_has v p - 1) 1 < 5)
def q_kf (m k : Nat) : Nat := (m + k / 2) % 4
def q_lf (m k : Nat) : Int32 := if (2 : Int32) + 3 * nI m - 2 * nI k < 1 then 1 else 2 + 3 * nI m - 2 * nI k
def q_could (v : qV) (p m k : Nat) : Bool := q_plays v p && (decide (q_its v (q_has v p - 1) 0 = nI (q_kf m k)) && (decide (¬ q_of v p 1 < nI (4 + 2 * k)) && decide (¬ q_of v p 2 < q_lf m k)))
/-- who gets a part, of the first n pupils -/
def q_bst (v : qV) (m k : Nat) (tk : Int32) : Nat → Int32
  | 0 => -1
  | n + 1 => cond (decide (tk >>> (nI n &&& 31) &&& 1 = 0) && (q_could v n m k && (decide (q_bst v m k tk n = -1) || decide (q_of v (q_bst v m k tk n).toNatClampNeg 2 < q_of v n 2)))) (nI n) (q_bst v m k tk n)
def q_tk (v : qV) (m np : Nat) : Nat → Int32
  | 0 => 0
  | k + 1 => cond (decide (q_bst v m k (q_tk v m np k) np = -1)) (q_tk v m np k) (q_tk v m np k ||| (1 : Int32) <<< (q_bst v m k (q_tk v m np k) np &&& 31))
def q_pl (v : qV) (m np k : Nat) : Int32 := q_bst v m k (q_tk v m np k) np
def q_sh (v : qV) (m np : Nat) : Nat → Nat
  | 0 => 0
  | k + 1 => q_sh v m np k + cond (decide (q_pl v m np k = -1)) 1 0
/-- what is small in a row -/
def q_ok0 (v : qV) (np ni : Nat) : Prop := np ≤ 10 ∧ ni ≤ 10 ∧ v 0 = nI np ∧ v 1 = nI ni ∧ ∀ p, p < np → ∃ h, h ≤ ni ∧ q_of v p 4 = nI h
theorem q_ok0.has {v : qV} {np ni p : Nat} (h : q_ok0 v np ni) (hp : p < np) : q_has v p ≤ 10 ∧ q_has v p ≤ ni ∧ q_of v p 4 = nI (q_has v p) := by
  obtain ⟨h1, h2, h3, h4, h5⟩ := h
  obtain ⟨k, k1, k2⟩ := h5 p hp
  have e : q_has v p = k := q_cl k2 (by omega)
  exact ⟨by omega, by omega, by rw [e]; exact k2⟩
theorem q_pred {n : Nat} (h : 0 < n) : nI n - 1 = nI (n - 1) := by
  obtain ⟨k, rfl⟩ : ∃ k, n = k + 1 := ⟨n - 1, by omega⟩
  exact nI_pred k
theorem q_kf_eq {m k : Nat} (hm : m < 4) (hk : k < 4) : (nI m + nI k / 2) - (nI m + nI k / 2) / 4 * 4 = nI (q_kf m k) := by
  rcases (show m = 0 ∨ m = 1 ∨ m = 2 ∨ m = 3 by omega) with rfl | rfl | rfl | rfl <;> rcases (show k = 0 ∨ k = 1 ∨ k = 2 ∨ k = 3 by omega) with rfl | rfl | rfl | rfl <;> decide +kernel
theorem q_plays_pos {v : qV} {p : Nat} (h : q_plays v p = true) : 0 < q_has v p := by
  unfold q_plays at h
  rw [Bool.and_eq_true] at h
  exact of_decide_eq_true h.1
/-- all but one of the reference's rows is as it was -/
def q_fr1 (i0 : Nat) (S S2 : eM) : Prop := (∀ k i, ¬ (k = 14 ∧ i = i0) → mI S2 k i = mI S k i) ∧ mR S2 = mR S ∧ mL S2 = mL S
theorem q_fr1.rf {i0 : Nat} {S : eM} : q_fr1 i0 S S := ⟨fun _ _ _ => rfl, rfl, rfl⟩
theorem q_fr1.set {i0 : Nat} {S S1 : eM} (h : q_fr1 i0 S S1) {j : Nat} {x : Int32} : q_fr1 i0 S (sI S1 14 i0 j x) :=
  ⟨fun a b hab => (e_u3_ne (fun z => hab ⟨congrArg Prod.fst z, congrArg Prod.snd z⟩)).trans (h.1 a b hab), h.2⟩
theorem q_sI {S : eM} {k i j a : Nat} {x : Int32} : mI (sI S k i j x) k i a = if a = j then x else mI S k i a := by
  show (if k = k ∧ i = i ∧ a = j then x else mI S k i a) = _
  by_cases h : a = j
  · rw [if_pos ⟨rfl, rfl, h⟩, if_pos h]
  · rw [if_neg (fun z => h z.2.2), if_neg h]
theorem q_bst_cases (v : qV) (m k : Nat) (tk : Int32) : ∀ n, q_bst v m k tk n = -1 ∨ ∃ j, j < n ∧ q_bst v m k tk n = nI j
  | 0 => Or.inl rfl
  | n + 1 => by
    rw [q_bst]
    cases (decide (tk >>> (nI n &&& 31) &&& 1 = 0) && (q_could v n m k && (decide (q_bst v m k tk n = -1) || decide (q_of v (q_bst v m k tk n).toNatClampNeg 2 < q_of v n 2)))) with
    | true => exact Or.inr ⟨n, by omega, rfl⟩
    | false =>
      rcases q_bst_cases v m k tk n with h | ⟨j, h1, h2⟩
      · exact Or.inl h
      · exact Or.inr ⟨j, by omega, h2⟩
/-- a number is an index below n -/
def q_ix (x : Int32) (n : Nat) : Bool := decide (¬ x < 0) && decide (x < nI n)
theorem q_ix_of {x : Int32} {n : Nat} (hn : n ≤ 65536) (h : q_ix x n = true) : ∃ k, k < n ∧ x = nI k := by
  unfold q_ix at h
  rw [Bool.and_eq_true] at h
  have h1 := of_decide_eq_true h.1
  have h2 := of_decide_eq_true h.2
  obtain ⟨k, hk, rfl⟩ := nI_of h1
  exact ⟨k, (nI_ltI hk (by omega)).mp h2, rfl⟩
theorem q_ix_mk {k n : Nat} (hn : n ≤ 65536) (h : k < n) : q_ix (nI k) n = true := by
  unfold q_ix
  rw [decide_eq_true (nI_pos (by omega)), decide_eq_true (nI_lt h (by omega))]
  rfl
theorem q_hi {x : Int32} {n : Nat} (hn : n ≤ 65536) : decide (¬ nI n - 1 < x) = decide (x < nI n) := by
  refine decide_eq_decide.mpr ?_
  have e : (nI n - 1).toInt = (n : Int) - 1 := by
    rcases Nat.eq_zero_or_pos n with rfl | h
    · decide
    · rw [q_pred h, nI_toInt (by omega)]
      omega
  rw [Int32.not_lt, Int32.le_iff_toInt_le, Int32.lt_iff_toInt_lt, e, nI_toInt (by omega)]
  omega
def q_sun (v : qV) : Bool := decide (v 3 - v 3 / 7 * 7 = 6)
def q_fee (t : Nat) : Nat := if t = 0 then 10 else if t = 1 then 25 else 60
/-- why an instrument is not lent to a pupil -/
def q_whyLoan (v : qV) (i p : Nat) : Nat := if 0 < q_its v i 2 then 1 else if 0 < q_of v p 4 then 2 else if ¬ q_its v i 1 < 5 then 3 else if v 14 < q_of v p 3 then 4 else if q_of v p 0 < 3 * q_its v i 0 + 5 then 5 else 0
/-- why a teacher does not teach a pupil -/
def q_whyLesson (v : qV) (p t : Nat) : Nat := if q_plays v p = false then 1 else if q_of v p 5 = 1 then 2 else if ¬ q_of v p 2 < nI (8 + 6 * t) then 3 else if q_of v p 1 < 3 + q_its v (q_has v p - 1) 0 then 4 else 0
/-- what a march brings -/
def q_pence (v : qV) (n : Nat) : Int32 := v 15 * (4 - nI n) * cond (decide (n = 0)) 2 1
theorem q_ue {f : Nat → Int32} {k : Nat} {x : Int32} : upd f k x k = x := if_pos rfl
theorem q_un {f : Nat → Int32} {k j : Nat} {x : Int32} (h : j ≠ k) : upd f k x j = f j := if_neg h
theorem q_of_up {v : qV} {k p w : Nat} {x : Int32} (h : k ≠ 16 + 7 * p + w) : q_of (upd v k x) p w = q_of v p w := q_un (fun z => h z.symm)
theorem q_ok0.upd {v : qV} {np ni k : Nat} {x : Int32} (h : q_ok0 v np ni) (hk : 2 ≤ k) (hh : ∀ p, p < 10 → k ≠ 16 + 7 * p + 4) : q_ok0 (upd v k x) np ni := by
  obtain ⟨h1, h2, h3, h4, h5⟩ := h
  refine ⟨h1, h2, by rw [q_un (by omega)]; exact h3, by rw [q_un (by omega)]; exact h4, fun p hp => ?_⟩
  obtain ⟨n, n1, n2⟩ := h5 p hp
  exact ⟨n, n1, by rw [q_of_up (hh p (by omega))]; exact n2⟩
theorem q_has_upd {v : qV} {k p : Nat} {x : Int32} (hh : k ≠ 16 + 7 * p + 4) : q_has (upd v k x) p = q_has v p := by
  unfold q_has
  rw [show q_of (upd v k x) p 4 = q_of v p 4 from q_un (fun z => hh z.symm)]
/-- dents come -/
def q_dn (v : qV) (i : Nat) (more : Int32) : Int32 := if 9 < q_its v i 1 + more then 9 else q_its v i 1 + more
def q_dents (v : qV) (i : Nat) (more : Int32) : qV := upd (upd v (86 + 5 * i + 1) (q_dn v i more)) (86 + 5 * i + 4) (if 0 < q_its v i 2 then q_its v i 4 + q_dn v i more - q_its v i 1 else 0)
def q_mend (v : qV) (i : Nat) : qV := upd (upd (upd v (86 + 5 * i + 1) 0) 12 (v 12 + 15 * q_its v i 1)) 8 (v 8 - 15 * q_its v i 1)
def q_lend (v : qV) (nl i p : Nat) : qV := upd (upd (upd (upd (upd v (86 + 5 * i + 2) (nI (p + 1))) (86 + 5 * i + 4) 0) (16 + 7 * p + 4) (nI (i + 1))) (136 + nl) (nI i)) 2 (nI (nl + 1))
def q_teach (v : qV) (p t : Nat) : qV := upd (upd (upd (upd (upd (upd v (16 + 7 * p + 2) (q_of v p 2 + 1)) (16 + 7 * p + 1) (q_of v p 1 - 3 - q_its v (q_has v p - 1) 0)) (16 + 7 * p + 5) 1) 5 (v 5 + 1)) 11 (v 11 + nI (q_fee t))) 8 (v 8 - nI (q_fee t))
-- a loan ends
def q_back0 (v : qV) (i p : Nat) : qV := upd (upd (upd (upd v (16 + 7 * p + 3) (q_of v p 3 + v 13 * q_its v i 4)) (16 + 7 * p + 4) 0) (86 + 5 * i + 2) 0) (86 + 5 * i + 4) 0
def q_bk (i : Nat) (u : qV) : Nat → qV × Nat
  | 0 => (u, 0)
  | k + 1 => (upd (q_bk i u k).1 (136 + (q_bk i u k).2) ((q_bk i u k).1 (136 + k)), cond (decide ((q_bk i u k).1 (136 + k) = nI i)) (q_bk i u k).2 ((q_bk i u k).2 + 1))
def q_back (v : qV) (nl i p : Nat) : qV := upd (q_bk i (q_back0 v i p) nl).1 2 (nI (q_bk i (q_back0 v i p) nl).2)
theorem q_bk_le (i : Nat) (u : qV) : ∀ k, (q_bk i u k).2 ≤ k ∧ ∀ j, j < 136 → (q_bk i u k).1 j = u j
  | 0 => ⟨Nat.le_refl _, fun _ _ => rfl⟩
  | k + 1 => by
    obtain ⟨h1, h2⟩ := q_bk_le i u k
    rw [q_bk]
    refine ⟨?_, fun j hj => ?_⟩
    · show cond _ _ _ ≤ k + 1
      cases decide ((q_bk i u k).1 (136 + k) = nI i) with
      | true => exact Nat.le_succ_of_le h1
      | false => exact Nat.succ_le_succ h1
    · show upd _ _ _ j = _
      rw [q_un (by omega)]
      exact h2 j hj
-- days pass
def q_ps (v : qV) (d : Int32) : Nat → qV
  | 0 => upd (upd v 3 (v 3 + d)) 4 0
  | p + 1 => upd (upd (q_ps v d p) (16 + 7 * p + 1) (if q_of v p 0 < q_of v p 1 + 4 * d then q_of v p 0 else q_of v p 1 + 4 * d)) (16 + 7 * p + 5) 0
theorem q_ps_at (v : qV) (d : Int32) : ∀ n j, (j = 0 ∨ j = 1 ∨ j = 2 ∨ (5 ≤ j ∧ j < 16) ∨ 16 + 7 * n ≤ j ∨ ∃ p w, w < 7 ∧ w ≠ 1 ∧ w ≠ 5 ∧ j = 16 + 7 * p + w) → q_ps v d n j = v j
  | 0, j, h => by
    rw [q_ps, q_un (by omega), q_un (by omega)]
  | n + 1, j, h => by
    have hn : j ≠ 16 + 7 * n + 5 ∧ j ≠ 16 + 7 * n + 1 := by
      rcases h with h | h | h | h | h | ⟨p, w, h1, h2, h3, h4⟩
      · omega
      · omega
      · omega
      · omega
      · omega
      · omega
    rw [q_ps, q_un hn.1, q_un hn.2]
    refine q_ps_at v d n j ?_
    rcases h with h | h | h | h | h | h
    · exact Or.inl h
    · exact Or.inr (Or.inl h)
    · exact Or.inr (Or.inr (Or.inl h))
    · exact Or.inr (Or.inr (Or.inr (Or.inl h)))
    · exact Or.inr (Or.inr (Or.inr (Or.inr (Or.inl (by omega)))))
    · exact Or.inr (Or.inr (Or.inr (Or.inr (Or.inr h))))
-- what undo goes back to
def q_sv (sv : Nat → qV) (sn : Nat) (v : qV) : Nat → qV := fun k => if k < min sn 5 then sv (if sn = 6 then k + 1 else k) else v
def q_frs (S S2 : eM) : Prop := (∀ k i j, ¬ (k = 13 ∧ i = 0 ∧ j = 2) → ¬ (k = 14 ∧ i = 1) → mI S2 k i j = mI S k i j) ∧ mR S2 = mR S ∧ mL S2 = mL S
-- a march is played
theorem q_bst_could (v : qV) (m k : Nat) (tk : Int32) : ∀ n, q_bst v m k tk n = -1 ∨ ∃ j, j < n ∧ q_bst v m k tk n = nI j ∧ q_could v j m k = true
  | 0 => Or.inl rfl
  | n + 1 => by
    rw [q_bst]
    cases hz : (decide (tk >>> (nI n &&& 31) &&& 1 = 0) && (q_could v n m k && (decide (q_bst v m k tk n = -1) || decide (q_of v (q_bst v m k tk n).toNatClampNeg 2 < q_of v n 2)))) with
    | true =>
      rw [Bool.and_eq_true, Bool.and_eq_true] at hz
      exact Or.inr ⟨n, by omega, rfl, hz.2.1⟩
    | false =>
      rcases q_bst_could v m k tk n with h | ⟨j, h1, h2, h3⟩
      · exact Or.inl h
      · exact Or.inr ⟨j, by omega, h2, h3⟩
def q_one (u : qV) (p i k : Nat) : qV := q_dents (upd (upd (upd u (16 + 7 * p + 1) (q_of u p 1 - nI (4 + 2 * k))) (16 + 7 * p + 6) (q_of u p 6 + 1)) (86 + 5 * i + 3) (q_its u i 3 + 1)) i (if (q_its u i 3 + 1) - (q_its u i 3 + 1) / 3 * 3 = 0 then 1 else 0)
/-- .. after k parts -/
def q_mr (v : qV) (m np : Nat) : Nat → qV
  | 0 => v
  | k + 1 => cond (decide (q_pl v m np k = -1)) (q_mr v m np k) (q_one (q_mr v m np k) (q_pl v m np k).toNatClampNeg (q_has v (q_pl v m np k).toNatClampNeg - 1) k)
def q_march (v : qV) (m np : Nat) : qV := upd (upd (upd (upd (upd (q_mr v m np 4) 4 1) 6 (v 6 + 1)) 7 (v 7 + nI (q_sh v m np 4))) 9 (v 9 + q_pence v (q_sh v m np 4))) 8 (v 8 + q_pence v (q_sh v m np 4))
theorem q_one_at {u : qV} {p i k j : Nat} (h : j ≠ 16 + 7 * p + 1 ∧ j ≠ 16 + 7 * p + 6 ∧ j ≠ 86 + 5 * i + 3 ∧ j ≠ 86 + 5 * i + 1 ∧ j ≠ 86 + 5 * i + 4) : q_one u p i k j = u j := by
  unfold q_one q_dents
  rw [q_un h.2.2.2.2, q_un h.2.2.2.1, q_un h.2.2.1, q_un h.2.1, q_un h.1]
/-- what a march leaves as it is -/
theorem q_mr_at {v : qV} {m np j : Nat} (hnp : np ≤ 10) (h : j < 16 ∨ (∃ p w, w < 7 ∧ w ≠ 1 ∧ w ≠ 6 ∧ j = 16 + 7 * p + w ∧ p < 10) ∨ 136 ≤ j) (hh : ∀ p, p < np → q_has v p ≤ 10) : ∀ k, q_mr v m np k j = v j
  | 0 => rfl
  | k + 1 => by
    rw [q_mr]
    cases hz : decide (q_pl v m np k = -1) with
    | true => exact q_mr_at hnp h hh k
    | false =>
      have hz := of_decide_eq_false hz
      rcases q_bst_cases v m k (q_tk v m np k) np with e | ⟨p, hp, e⟩
      · exact absurd e hz
      · have e : q_pl v m np k = nI p := e
        have hi := hh p hp
        show q_one _ _ _ _ j = v j
        rw [e, nI_clamp (by omega), q_one_at, q_mr_at hnp h hh k]
        rcases h with h | ⟨p2, w, h1, h2, h3, h4, h5⟩ | h
        · omega
        · omega
        · omega
def q_fr14 (S S2 : eM) : Prop := (∀ k i, ¬ (k = 14 ∧ (i = 0 ∨ i = 5)) → mI S2 k i = mI S k i) ∧ mR S2 = mR S ∧ mL S2 = mL S
theorem q_fr14.of0 {S S1 S2 : eM} (h : q_fr14 S S1) (k : q_fr1 0 S1 S2) : q_fr14 S S2 := ⟨fun a b hab => (k.1 a b (fun z => hab ⟨z.1, Or.inl z.2⟩)).trans (h.1 a b hab), k.2.1.trans h.2.1, k.2.2.trans h.2.2⟩
theorem q_fr14.of5 {S S1 S2 : eM} (h : q_fr14 S S1) (k : q_fr1 5 S1 S2) : q_fr14 S S2 := ⟨fun a b hab => (k.1 a b (fun z => hab ⟨z.1, Or.inr z.2⟩)).trans (h.1 a b hab), k.2.1.trans h.2.1, k.2.2.trans h.2.2⟩
theorem q_fr14.rf {S : eM} : q_fr14 S S := ⟨fun _ _ _ => rfl, rfl, rfl⟩
