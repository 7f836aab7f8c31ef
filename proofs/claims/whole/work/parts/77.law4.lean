/-! What walks come to: which exception the reference tells. Own work. -/
section Law4
variable {S : eM} {post : eQ}
theorem q_X5_thrown {e : Nat} (h8 : mI S 13 0 8 = nI e) (h : post (some (aI (nI e))) S) : w_X5_thrown [aR 13 0] S post := by
  rw [← h8] at h
  exact e_walk (stops := []) 20 h
end Law4
