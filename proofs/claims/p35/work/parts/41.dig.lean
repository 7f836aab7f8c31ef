/-! What walks come to: the reference's hash. Own work. -/
section Dig
variable {S S1 S2 : eM} {v v2 sp : qV} {sv : Nat → qV} {sn ln : Nat} {tk : Bool} {tx : Nat → Int32} {B np ni nl : Nat}
/-- how long a line-up told is, of d parts from k on -/
def q_tl (m : Nat) : Nat → Nat → Nat
  | 0, _ => 0
  | d + 1, k => q_nl (q_kf m k) + 2 + (if k < 3 then 1 else 0) + q_tl m d (k + 1)
theorem q_lt_ne : ∀ c, c < 4 → ∀ l, l < q_nl c → ¬ q_lt c l = -1 := by decide +kernel
theorem q_pl_ge {m k : Nat} (hnp : np ≤ 10) : (if q_pl v m np k = -1 then (45 : Int32) else 48 + q_pl v m np k) ≠ -1 := by
  rcases q_pl_could v m np k with y | ⟨b, y1, y2, y3⟩
  · rw [if_pos y]; decide
  · rw [if_neg (by rw [y2]; exact q_nIne (by omega)), y2, show (48 : Int32) + nI b = nI (48 + b) from nI_add 48 b]
    exact q_nIne (by omega)
theorem q_ch_end {m : Nat} (hnp : np ≤ 10) : ∀ d k l, k + d = 4 → (q_ch v m np d k l = -1 ↔ q_tl m d k ≤ l)
  | 0, k, l, _ => ⟨fun _ => Nat.zero_le _, fun _ => rfl⟩
  | d + 1, k, l, h => by
    have hkf : q_kf m k < 4 := Nat.mod_lt _ (by decide)
    have hpl := q_pl_ge (v := v) (m := m) (k := k) hnp
    rw [q_ch, q_tl]
    by_cases c1 : l < q_nl (q_kf m k)
    · rw [if_pos c1]
      exact ⟨fun z => absurd z (q_lt_ne _ hkf _ c1), fun z => by omega⟩
    rw [if_neg c1]
    by_cases c2 : l = q_nl (q_kf m k)
    · rw [if_pos c2]
      exact ⟨fun z => absurd z (by decide), fun z => by omega⟩
    rw [if_neg c2]
    by_cases c3 : l = q_nl (q_kf m k) + 1
    · rw [if_pos c3]
      exact ⟨fun z => absurd z hpl, fun z => by omega⟩
    rw [if_neg c3]
    by_cases c5 : k < 3
    · rw [if_pos c5]
      by_cases c4 : l = q_nl (q_kf m k) + 2
      · rw [if_pos ⟨c4, c5⟩]
        exact ⟨fun z => absurd z (by decide), fun z => by omega⟩
      · rw [if_neg (fun z => c4 z.1), q_ch_end hnp d (k + 1) _ (by omega)]
        omega
    · rw [if_neg c5, if_neg (fun z => c5 z.2)]
      obtain rfl : d = 0 := by omega
      exact ⟨fun _ => by show _ + 2 + 0 + 0 ≤ l; omega, fun _ => rfl⟩
theorem q_tl_lt {m : Nat} (hm : m < 4) : q_tl m 4 0 < 65536 := by
  rcases (show m = 0 ∨ m = 1 ∨ m = 2 ∨ m = 3 by omega) with rfl | rfl | rfl | rfl <;> decide
end Dig
