/-! What walks come to, 4: what the reference tells as a text; its share. Own work. -/
section RefTold
variable {S S2 : eM} {v v2 sp : qV} {sv : Nat → qV} {sn ln : Nat} {tk : Bool} {tx : Nat → Int32}
def q_nl (c : Nat) : Nat := if c = 0 then 6 else if c = 2 then 8 else 4
def q_lt (c l : Nat) : Int32 := (e_sb.getD c []).getD l 0
/-- a sign of a line-up told: d parts are left, from part k on, and l signs to go -/
def q_ch (v : qV) (m np : Nat) : Nat → Nat → Nat → Int32
  | 0, _, _ => -1
  | d + 1, k, l => if l < q_nl (q_kf m k) then q_lt (q_kf m k) l else if l = q_nl (q_kf m k) then 58 else if l = q_nl (q_kf m k) + 1 then (if q_pl v m np k = -1 then 45 else 48 + q_pl v m np k) else if l = q_nl (q_kf m k) + 2 ∧ k < 3 then 44 else q_ch v m np d (k + 1) (l - (q_nl (q_kf m k) + 3))
end RefTold
section RefTold2
variable {S S2 : eM} {v v2 sp : qV} {sv : Nat → qV} {sn ln : Nat} {tk : Bool} {tx : Nat → Int32}
def q_toldE (x y : Int32) : Nat := cond (q_ix x 4) (if y < 0 then 2 else 0) 1
theorem q_toldE_lt {x y : Int32} : q_toldE x y < 65536 := by
  unfold q_toldE
  cases q_ix x 4 with
  | false => exact (by decide : 1 < 65536)
  | true => show (if _ then 2 else 0) < _; split <;> decide
end RefTold2
section RefShare
variable {S S2 : eM} {v v2 sp : qV} {sv : Nat → qV} {sn ln : Nat} {tk : Bool} {tx : Nat → Int32}
/-- the share of parts that were filled: of mm marches, ss parts short -/
def q_shr (mm ss : Nat) : UInt64 := if mm = 0 then 4607182418800017408 else FP.ddiv (FP.i2d (nI (4 * mm - ss))) (FP.i2d (nI (4 * mm)))
theorem q_sub {a b : Nat} (h : b ≤ a) : nI a - nI b = nI (a - b) := by
  rw [show nI a = nI (a - b) + nI b by rw [nI_add]; congr 1; omega, Int32.add_sub_cancel]
end RefShare
