/-! What walks come to: one call on both sides. Own work. -/
section Two
variable {S S1 S2 : eM} {v sp : qV} {sv : Nat → qV} {sn ln : Nat} {tk : Bool} {tx : Nat → Int32} {B np ni nl : Nat} {a : Nat → Nat}
theorem q_Y.mono {B2 : Nat} (h : q_Y S v sv sn sp tk tx ln B) (hB : B ≤ B2) : q_Y S v sv sn sp tk tx ln B2 := by
  obtain ⟨p, i, l, a, h1, h2, h3⟩ := h
  exact ⟨p, i, l, a, h1, h2.mono hB, h3.mono hB⟩
variable {x y w : Int32}
end Two
