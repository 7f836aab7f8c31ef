/-! What walks come to: the reference does its works; the bits of a share. Own work. -/
section Works
variable {S S2 : eM} {v v2 sp : qV} {sv : Nat → qV} {sn ln : Nat} {tk : Bool} {f : Nat → Int32} {B np ni nl : Nat}
def q_nlv (v : qV) : Nat := (v 2).toNatClampNeg
theorem q_inv.nlq (h : q_inv B v np ni nl) : q_nlv v = nl := q_cl h.1.2.2.2.2.2 (by have := h.1.2.2.1; omega)
theorem q_backE_ok {x : Int32} (hi : q_inv B v np ni nl) (h : q_backE v ni x = 0) : ∃ i p, i < ni ∧ p < np ∧ x = nI i ∧ q_its v i 2 = nI (p + 1) := by
  have hni := hi.1.2.1
  have hnp := hi.1.1
  unfold q_backE at h
  cases z1 : q_ix x ni with
  | false => rw [z1] at h; exact absurd (show (1 : Nat) = 0 from h) (by decide)
  | true =>
    rw [z1, cond_true] at h
    obtain ⟨i, hii, rfl⟩ := q_ix_of (by omega) z1
    rw [nI_clamp (by omega)] at h
    obtain ⟨k, d, l, ⟨e1, e2, e3⟩, g, -⟩ := hi.2.2.1 i hii
    by_cases z : q_its v i 2 = 0
    · rw [if_pos z] at h; exact absurd h (by decide)
    · have hl : l ≠ 0 := fun y => z (by rw [e3, y]; rfl)
      exact ⟨i, l - 1, hii, by omega, rfl, by rw [e3, show l - 1 + 1 = l by omega]⟩
end Works
section Bits
end Bits
