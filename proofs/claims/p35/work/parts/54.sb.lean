/-! What walks come to: StringBuilder. Own work. -/
section SBs
variable {S S1 S2 : eM} {post : eQ}
/-- a byte below 128 -/
def q_by (x : Int32) : Prop := ∃ n, n < 128 ∧ x = nI n
/-- builder s holds ln signs f, in row i -/
def q_T1 (S : eM) (s i : Nat) (f : Nat → Int32) (ln : Nat) : Prop := mR S 10 s 0 = some (11, i) ∧ mI S 10 s 1 = 0 ∧ mI S 10 s 3 = nI ln ∧ (ln ≤ i % 65536 ∧ (i % 65536 = 16 ∨ i % 65536 = 34 ∨ i % 65536 = 70)) ∧ (∀ j, j < i % 65536 → q_by (mI S 11 i j)) ∧ ∀ j, j < ln → mI S 11 i j = f j
/-- but for builders and their rows all is as it was -/
def q_fx (S S2 : eM) : Prop := ∀ k i, k ≠ 10 → k ≠ 11 → mI S2 k i = mI S k i ∧ mR S2 k i = mR S k i ∧ mL S2 k i = mL S k i
theorem q_fx.rf : q_fx S S := fun _ _ _ _ => ⟨rfl, rfl, rfl⟩
theorem q_fx.trans (h : q_fx S S1) (g : q_fx S1 S2) : q_fx S S2 := fun k i a c => ⟨(g k i a c).1.trans (h k i a c).1, (g k i a c).2.1.trans (h k i a c).2.1, (g k i a c).2.2.trans (h k i a c).2.2⟩
theorem q_fx.sI (h : q_fx S S1) {k i j : Nat} {x : Int32} (hk : k = 10 ∨ k = 11) : q_fx S (sI S1 k i j x) := fun k2 i2 a c => ⟨(e_u3_ne (fun z => by cases z; omega)).trans (h k2 i2 a c).1, (h k2 i2 a c).2⟩
theorem q_lnB {i : Nat} : e_ln 11 i = i % 65536 := rfl
theorem q_fresh (l : List (Nat × Nat)) {n : Nat} (hn : n < 65536) (a c : Nat) : ∃ i, i % 65536 = n ∧ (11, i) ∉ l ∧ i ≠ a ∧ i ≠ c := by
  have key : ∃ u, ∀ q ∈ l, q.2 < u := by
    induction l with
    | nil => exact ⟨0, fun q h => absurd h List.not_mem_nil⟩
    | cons q l ih =>
      obtain ⟨u, hu⟩ := ih
      refine ⟨max u (q.2 + 1), fun r hr => ?_⟩
      rcases List.mem_cons.mp hr with rfl | h
      · omega
      · have := hu r h
        omega
  obtain ⟨u, hu⟩ := key
  refine ⟨n + 65536 * (u + a + c + 1), by omega, fun h => ?_, by omega, by omega⟩
  have := hu _ h
  have : n + 65536 * (u + a + c + 1) < u := this
  omega
theorem q_nw_ne {k i a k2 i2 : Nat} (h : ¬ (k2 = k ∧ i2 = i)) : mI (e_nw S k i a) k2 i2 = mI S k2 i2 ∧ mR (e_nw S k i a) k2 i2 = mR S k2 i2 ∧ mL (e_nw S k i a) k2 i2 = mL S k2 i2 := by
  refine ⟨?_, ?_, ?_⟩
  · show (if k2 = k ∧ i2 = i then fun _ => 0 else mI S k2 i2) = _
    rw [if_neg h]
  · show (if k2 = k ∧ i2 = i then fun _ => none else mR S k2 i2) = _
    rw [if_neg h]
  · show (if k2 = k ∧ i2 = i then fun _ => 0 else mL S k2 i2) = _
    rw [if_neg h]
theorem q_nw_eq {k i a j : Nat} : mI (e_nw S k i a) k i j = 0 := by
  show (if k = k ∧ i = i then fun _ => 0 else mI S k i) j = 0
  rw [if_pos ⟨rfl, rfl⟩]
theorem q_by0 : q_by 0 := ⟨0, by decide, rfl⟩
theorem q_by_fit {x : Int32} (h : q_by x) : fits .byte (.int x) = true := by
  obtain ⟨n, hn, rfl⟩ := h
  have key : ∀ n, n < 128 → fits .byte (.int (nI n)) = true := by decide +kernel
  exact key n hn
theorem q_by_nar {n : Nat} (hn : n < 128) : vp_nar .byte ((nI n).toInt8.toInt32) = nI n := by
  have key : ∀ n, n < 128 → vp_nar .byte ((nI n).toInt8.toInt32) = nI n := by decide +kernel
  exact key n hn
theorem q_by_nar2 {n : Nat} (hn : n < 128) : vp_nar .byte (nI n) = nI n := by
  have key : ∀ n, n < 128 → vp_nar .byte (nI n) = nI n := by decide +kernel
  exact key n hn
theorem q_sh0 (x : Int32) : x >>> ((0 : Int32) &&& 31) = x ∧ x <<< ((0 : Int32) &&& 31) = x := by
  rw [show (0 : Int32) &&& 31 = 0 by decide]
  exact ⟨Int32.shiftRight_zero, Int32.shiftLeft_zero⟩
theorem q_J8_newLength {a c d : Nat} (ha : a < 1000) (hc : c < 1000) (hd : d < 1000) (h1 : 0 < max c d) (h : post (some (aI (nI (a + max c d)))) S) : w_J8_newLength_cabcc [aI (nI a), aI (nI c), aI (nI d)] S post := by
  refine e_walk (stops := [7]) 20 ?_
  show e_Run tb_J8_newLength_cabcc post e_no 7 [some (aI (nI a)), some (aI (nI c)), some (aI (nI d)), none] [aI (nI a + if nI c < nI d then nI d else nI c)] S 0 0
  have e : (if nI c < nI d then nI d else nI c) = nI (max c d) := by
    by_cases z : c < d
    · rw [if_pos (nI_lt z (by omega)), show max c d = d by omega]
    · rw [if_neg (fun y => z ((nI_ltI (by omega) (by omega)).mp y)), show max c d = c by omega]
  rw [e, nI_add]
  refine e_walk (stops := []) 20 ?_
  refine And.intro (fun z => absurd z (nI_ge (a := 0) (by omega) (by omega))) (fun _ => And.intro (fun z => absurd z ?_) (fun _ => h))
  exact fun z => absurd ((nI_ltI (a := 2147483639) (by decide) (by omega)).mp z) (by omega)
theorem q_J5_newCapacity {s i ln m : Nat} {f : Nat → Int32} (hT : q_T1 S s i f ln) (hm : m < 1000) (h : post (some (aI (nI (i % 65536 + max (m - i % 65536) (i % 65536 + 2))))) S) (hmi : i % 65536 < m) : w_J5_newCapacity_0f7a4 [aR 10 s, aI (nI m)] S post := by
  obtain ⟨h0, h1, h3, ⟨h4, h5⟩, -⟩ := hT
  generalize hc : i % 65536 = cap at *
  refine e_walk (stops := [4]) 20 ?_
  show e_Run tb_J5_newCapacity_0f7a4 post e_no 4 [some (aR 10 s), some (aI (nI m)), none, none, none, none] [aO (mR S 10 s 0)] S 0 0
  rw [h0]
  refine e_walk (stops := [11]) 20 ?_
  show e_Run tb_J5_newCapacity_0f7a4 post e_no 11 [some (aR 10 s), some (aI (nI m)), some (aI (nI (i % 65536))), none, none, none] [aI (mI S 10 s 1), aI (nI m)] S 0 0
  rw [h1, hc]
  refine e_walk (stops := [12]) 1 ?_
  show e_Run tb_J5_newCapacity_0f7a4 post e_no 12 [some (aR 10 s), some (aI (nI m)), some (aI (nI cap)), none, none, none] [aI (nI m <<< ((0 : Int32) &&& 31))] S 0 0
  rw [(q_sh0 _).2]
  refine e_walk (stops := [27]) 20 ?_
  show e_Run tb_J5_newCapacity_0f7a4 post e_no 27 [some (aR 10 s), some (aI (nI m)), some (aI (nI cap)), some (aI (nI m)), some (aI (nI m - nI cap)), none] [aI (mI S 10 s 1), aI 2, aI (nI cap), aI (nI m - nI cap), aI (nI cap)] S 0 0
  rw [h1, q_sub (by omega)]
  refine e_walk (stops := [29]) 20 ?_
  show e_Run tb_J5_newCapacity_0f7a4 post e_no 29 [some (aR 10 s), some (aI (nI m)), some (aI (nI cap)), some (aI (nI m)), some (aI (nI (m - cap))), none] [aI (nI cap + 2 <<< ((0 : Int32) &&& 31)), aI (nI (m - cap)), aI (nI cap)] S 0 0
  rw [(q_sh0 _).2, show nI cap + 2 = nI (cap + 2) from nI_add cap 2]
  refine e_walk (stops := [32]) 20 ?_
  refine q_J8_newLength (by omega) (by omega) (by omega) (by omega) ?_
  refine e_walk (stops := [57]) 20 ?_
  refine And.intro (fun c => absurd ((nI_eq (b := 2147483647) (by omega) (by decide)).mp c) (by omega)) (fun _ => ?_)
  show e_Run tb_J5_newCapacity_0f7a4 post e_no 57 [some (aR 10 s), some (aI (nI m)), some (aI (nI cap)), some (aI (nI m)), some (aI (nI (m - cap))), some (aI (nI (cap + max (m - cap) (cap + 2))))] [aI (mI S 10 s 1), aI (nI (cap + max (m - cap) (cap + 2)))] S 0 0
  rw [h1]
  refine e_walk (stops := [58]) 1 ?_
  show e_Run tb_J5_newCapacity_0f7a4 post e_no 58 [some (aR 10 s), some (aI (nI m)), some (aI (nI cap)), some (aI (nI m)), some (aI (nI (m - cap))), some (aI (nI (cap + max (m - cap) (cap + 2))))] [aI (nI (cap + max (m - cap) (cap + 2)) >>> ((0 : Int32) &&& 31))] S 0 0
  rw [(q_sh0 _).1]
  exact e_walk (stops := []) 20 h
theorem q_J7_copyOf {i m b1 : Nat} (hm : m ≤ 70) (hi : i % 65536 < m) (hb : ∀ j, j < i % 65536 → q_by (mI S 11 i j)) (h : ∀ i2 a, i2 % 65536 = m → i2 ≠ i → i2 ≠ b1 → post (some (aR 11 i2)) (e_cpy (e_nw S 11 i2 a) 11 i 11 i2 0 0 (i % 65536))) : w_J7_copyOf_9075b [aR 11 i, aI (nI m)] S post := by
  obtain ⟨i2, f1, f2, f3, f4⟩ := q_fresh (mP S) (n := m) (by omega) i b1
  have hcl : (nI m).toNatClampNeg = m := nI_clamp (by omega)
  have c0 : ((0 : Int32)).toNatClampNeg = 0 := by decide
  refine e_walk (stops := [15]) 20 ?_
  refine And.intro (fun c => absurd ((nI_eq (a := m) (b := i % 65536) (by omega) (by omega)).mp c) (by omega)) (fun _ => ?_)
  refine e_walk (stops := [17]) 20 ?_
  refine ⟨11, i2, ⟨nI_pos (by omega), by rw [hcl]; omega, rfl, by decide, by rw [hcl]; exact f1, f2, Nat.le_refl 1, by rw [hcl]; exact hm⟩, fun a => ?_⟩
  rw [hcl]
  refine e_walk (stops := [28]) 20 ?_
  have he : (if nI m < nI (i % 65536) then nI m else nI (i % 65536)) = nI (i % 65536) := if_neg (fun z => absurd ((nI_ltI (by omega) (by omega)).mp z) (by omega))
  show e_Run tb_J7_copyOf_9075b post e_no 28 [some (aR 11 i), some (aI (nI m)), some (aR 11 i2)] [aI (if nI m < nI (i % 65536) then nI m else nI (i % 65536)), aI 0, aR 11 i2, aI 0, aR 11 i] (e_nw S 11 i2 a) (1 - 1) (70 - m)
  rw [he]
  have hl2 : (nI (i % 65536)).toNatClampNeg = i % 65536 := nI_clamp (by omega)
  refine e_walk (stops := []) 20 ?_
  refine And.intro ⟨by decide, by decide, nI_pos (by omega), by rw [c0, hl2]; show 0 + i % 65536 ≤ i % 65536; omega, by rw [c0, hl2]; show 0 + i % 65536 ≤ i2 % 65536; omega, fun j hj => ?_⟩ ?_
  · rw [hl2] at hj
    rw [c0, Nat.zero_add, (q_nw_ne (fun z => f3 z.2.symm)).1]
    exact q_by_fit (hb j hj)
  · show post (some (aR 11 i2)) (e_cpy (e_nw S 11 i2 a) 11 i 11 i2 ((0 : Int32)).toNatClampNeg ((0 : Int32)).toNatClampNeg (nI (i % 65536)).toNatClampNeg)
    rw [c0, hl2]
    exact h i2 a f1 f3 f4
/-- room for m signs -/
theorem q_J5_ensure {s o i io ln lo m : Nat} {f g : Nat → Int32} (hso : s ≠ o) (hT : q_T1 S s i f ln) (hO : q_T1 S o io g lo) (hio : i ≠ io) (hm : m ≤ 70) (hm2 : m ≤ ln + 10) (h : ∀ S2 i2, q_fx S S2 → i2 ≠ io → m ≤ i2 % 65536 → q_T1 S2 s i2 f ln → q_T1 S2 o io g lo → post none S2) : w_J5_ensureCapacityInternal_d00df [aR 10 s, aI (nI m)] S post := by
  have hT0 := hT
  obtain ⟨h0, h1, h3, ⟨h4, h5⟩, h6, h7⟩ := hT
  refine e_walk (stops := [4]) 20 ?_
  show e_Run tb_J5_ensureCapacityInternal_d00df post e_no 4 [some (aR 10 s), some (aI (nI m)), none] [aO (mR S 10 s 0)] S 1 70
  rw [h0]
  refine e_walk (stops := [9]) 20 ?_
  show e_Run tb_J5_ensureCapacityInternal_d00df post e_no 9 [some (aR 10 s), some (aI (nI m)), none] [aI (mI S 10 s 1), aI (nI (i % 65536))] S 1 70
  rw [h1]
  refine e_walk (stops := [10]) 1 ?_
  show e_Run tb_J5_ensureCapacityInternal_d00df post e_no 10 [some (aR 10 s), some (aI (nI m)), none] [aI (nI (i % 65536) >>> ((0 : Int32) &&& 31))] S 1 70
  rw [(q_sh0 _).1]
  by_cases hc : i % 65536 < m
  · refine e_walk (stops := [14]) 20 ?_
    show e_Run tb_J5_ensureCapacityInternal_d00df post e_no 14 [some (aR 10 s), some (aI (nI m)), some (aI (nI (i % 65536)))] [aI (nI m - nI (i % 65536))] S 1 70
    rw [q_sub (by omega)]
    refine e_walk (stops := [22]) 20 ?_
    refine And.intro (fun c => absurd c (nI_ge (a := 0) (by omega) (by omega))) (fun _ => ?_)
    show e_Run tb_J5_ensureCapacityInternal_d00df post e_no 22 [some (aR 10 s), some (aI (nI m)), some (aI (nI (i % 65536)))] [aO (mR S 10 s 0), aR 10 s] S 1 70
    rw [h0]
    refine e_walk (stops := [27]) 20 ?_
    refine q_J5_newCapacity hT0 (by omega) ?_ hc
    have hw : i % 65536 + max (m - i % 65536) (i % 65536 + 2) = 34 ∨ i % 65536 + max (m - i % 65536) (i % 65536 + 2) = 70 := by omega
    have hwm : m ≤ i % 65536 + max (m - i % 65536) (i % 65536 + 2) := by omega
    have hwc : i % 65536 < i % 65536 + max (m - i % 65536) (i % 65536 + 2) := by omega
    generalize i % 65536 + max (m - i % 65536) (i % 65536 + 2) = w at *
    refine e_walk (stops := [31]) 20 ?_
    show e_Run tb_J5_ensureCapacityInternal_d00df post e_no 31 [some (aR 10 s), some (aI (nI m)), some (aI (nI (i % 65536)))] [aI (mI S 10 s 1), aI (nI w), aR 11 i, aR 10 s] S 1 70
    rw [h1]
    refine e_walk (stops := [32]) 1 ?_
    show e_Run tb_J5_ensureCapacityInternal_d00df post e_no 32 [some (aR 10 s), some (aI (nI m)), some (aI (nI (i % 65536)))] [aI (nI w <<< ((0 : Int32) &&& 31)), aR 11 i, aR 10 s] S 1 70
    rw [(q_sh0 _).2]
    refine e_walk (stops := [35]) 20 ?_
    refine And.intro (Nat.le_refl 1) (And.intro (Nat.le_refl 70) ?_)
    refine q_J7_copyOf (b1 := io) (by omega) hwc h6 (fun i2 a g1 g2 g3 => ?_)
    refine e_walk (stops := []) 20 ?_
    refine And.intro (fun q z => by cases z) ?_
    have ne : ∀ k2 i3, ¬ (k2 = 11 ∧ i3 = i2) → mI (e_cpy (e_nw S 11 i2 a) 11 i 11 i2 0 0 (i % 65536)) k2 i3 = mI S k2 i3 := fun k2 i3 z => by rw [q_cpy_ne z]; exact (q_nw_ne z).1
    have row : ∀ j, mI (e_cpy (e_nw S 11 i2 a) 11 i 11 i2 0 0 (i % 65536)) 11 i2 j = if j < i % 65536 then mI S 11 i j else 0 := fun j => by
      by_cases hj : j < i % 65536
      · rw [q_cpy_eq hj, if_pos hj, (q_nw_ne (fun z => g2 z.2.symm)).1]
      · rw [if_neg hj]
        show (if 11 = 11 ∧ i2 = i2 then va_cpy (mI (e_nw S 11 i2 a) 11 i) (mI (e_nw S 11 i2 a) 11 i2) 0 0 (i % 65536) else mI (e_nw S 11 i2 a) 11 i2) j = 0
        rw [if_pos ⟨rfl, rfl⟩]
        unfold va_cpy
        rw [if_neg (by omega)]
        exact q_nw_eq
    have nr : ∀ k2 i3, ¬ (k2 = 11 ∧ i3 = i2) → mR (e_cpy (e_nw S 11 i2 a) 11 i 11 i2 0 0 (i % 65536)) k2 i3 = mR S k2 i3 := fun k2 i3 z => (q_nw_ne z).2.1
    have nl : ∀ k2 i3, ¬ (k2 = 11 ∧ i3 = i2) → mL (e_cpy (e_nw S 11 i2 a) 11 i 11 i2 0 0 (i % 65536)) k2 i3 = mL S k2 i3 := fun k2 i3 z => (q_nw_ne z).2.2
    have rr : ∀ k2 i3, ¬ (k2 = 10 ∧ i3 = s) → mR (sR (e_cpy (e_nw S 11 i2 a) 11 i 11 i2 0 0 (i % 65536)) 10 s 0 (some (11, i2))) k2 i3 = mR (e_cpy (e_nw S 11 i2 a) 11 i 11 i2 0 0 (i % 65536)) k2 i3 := fun k2 i3 z => e_u3_ne (fun y => z (by cases y; exact ⟨rfl, rfl⟩))
    refine h (sR (e_cpy (e_nw S 11 i2 a) 11 i 11 i2 0 0 (i % 65536)) 10 s 0 (some (11, i2))) i2 (fun k2 i3 n10 n11 => ⟨ne k2 i3 (fun z => n11 z.1), (rr k2 i3 (fun z => n10 z.1)).trans (nr k2 i3 (fun z => n11 z.1)), nl k2 i3 (fun z => n11 z.1)⟩) g3 (by omega) ⟨?_, ?_, ?_, ⟨by omega, by omega⟩, fun j hj => ?_, fun j hj => ?_⟩ ?_
    · show e_u3 (mR (e_cpy (e_nw S 11 i2 a) 11 i 11 i2 0 0 (i % 65536))) 10 s 0 (some (11, i2)) 10 s 0 = _
      exact e_u3_eq
    · show mI (e_cpy (e_nw S 11 i2 a) 11 i 11 i2 0 0 (i % 65536)) 10 s 1 = 0
      rw [ne 10 s (by omega)]; exact h1
    · show mI (e_cpy (e_nw S 11 i2 a) 11 i 11 i2 0 0 (i % 65536)) 10 s 3 = _
      rw [ne 10 s (by omega)]; exact h3
    · show q_by (mI (e_cpy (e_nw S 11 i2 a) 11 i 11 i2 0 0 (i % 65536)) 11 i2 j)
      rw [row]
      split
      · exact h6 j (by assumption)
      · exact q_by0
    · show mI (e_cpy (e_nw S 11 i2 a) 11 i 11 i2 0 0 (i % 65536)) 11 i2 j = f j
      rw [row, if_pos (by omega)]
      exact h7 j hj
    · obtain ⟨o0, o1, o3, o4, o6, o7⟩ := hO
      refine ⟨?_, ?_, ?_, o4, fun j hj => ?_, fun j hj => ?_⟩
      · rw [rr 10 o (fun z => hso z.2.symm), nr 10 o (by omega)]; exact o0
      · show mI (e_cpy (e_nw S 11 i2 a) 11 i 11 i2 0 0 (i % 65536)) 10 o 1 = 0
        rw [ne 10 o (by omega)]; exact o1
      · show mI (e_cpy (e_nw S 11 i2 a) 11 i 11 i2 0 0 (i % 65536)) 10 o 3 = _
        rw [ne 10 o (by omega)]; exact o3
      · show q_by (mI (e_cpy (e_nw S 11 i2 a) 11 i 11 i2 0 0 (i % 65536)) 11 io j)
        rw [ne 11 io (fun z => g3 z.2.symm)]; exact o6 j hj
      · show mI (e_cpy (e_nw S 11 i2 a) 11 i 11 i2 0 0 (i % 65536)) 11 io j = g j
        rw [ne 11 io (fun z => g3 z.2.symm)]; exact o7 j hj
  · refine e_walk (stops := []) 20 ?_
    refine And.intro (fun _ => h S i q_fx.rf hio (by omega) hT0 hO) (fun c => absurd ?_ c)
    show nI m - nI (i % 65536) ≤ 0
    rw [Int32.le_iff_toInt_le]
    have e1 : (nI m - nI (i % 65536)).toInt = (m : Int) - (i % 65536 : Nat) := by
      rw [Int32.toInt_sub, nI_toInt (by omega), nI_toInt (by omega)]
      exact Int.bmod_eq_of_le (by omega) (by omega)
    rw [e1]
    show (m : Int) - (i % 65536 : Nat) ≤ 0
    omega
theorem q_J5_isLatin1 {s : Nat} (h1 : mI S 10 s 1 = 0) (h : post (some (aI 1)) S) : w_J5_isLatin1_aae02 [aR 10 s] S post := by
  refine e_walk (stops := [10]) 20 ?_
  refine And.intro (fun c => absurd c (by decide)) (fun _ => ?_)
  show e_Run tb_J5_isLatin1_aae02 post e_no 10 [some (aR 10 s)] [aI (mI S 10 s 1)] S 0 0
  rw [h1]
  refine e_walk (stops := []) 20 ?_
  exact And.intro (fun _ => h) (fun c => absurd rfl c)
/-- a sign laid behind the others -/
theorem q_T1_add {s o i io ln lo n : Nat} {f g : Nat → Int32} (hso : s ≠ o) (hT : q_T1 S s i f ln) (hO : q_T1 S o io g lo) (hio : i ≠ io) (hc : ln < i % 65536) (hn : n < 128) : q_T1 (sI (sI S 10 s 3 (nI (ln + 1))) 11 i ln (nI n)) s i (upd f ln (nI n)) (ln + 1) ∧ q_T1 (sI (sI S 10 s 3 (nI (ln + 1))) 11 i ln (nI n)) o io g lo := by
  obtain ⟨h0, h1, h3, ⟨h4, h5⟩, h6, h7⟩ := hT
  obtain ⟨o0, o1, o3, o4, o6, o7⟩ := hO
  refine ⟨⟨h0, ?_, ?_, ⟨by omega, h5⟩, fun j hj => ?_, fun j hj => ?_⟩, ⟨o0, ?_, ?_, o4, fun j hj => ?_, fun j hj => ?_⟩⟩
  · rw [q_s_ne (by omega), q_s_ne (by omega)]; exact h1
  · rw [q_s_ne (by omega), q_s_self]
  · by_cases z : j = ln
    · subst z
      rw [q_s_self]; exact ⟨n, hn, rfl⟩
    · rw [q_s_ne (by omega), q_s_ne (by omega)]; exact h6 j hj
  · by_cases z : j = ln
    · subst z
      rw [q_s_self, q_ue]
    · rw [q_s_ne (by omega), q_s_ne (by omega), q_un z]; exact h7 j (by omega)
  · rw [q_s_ne (by omega), q_s_ne (by omega)]; exact o1
  · rw [q_s_ne (by omega), q_s_ne (by omega)]; exact o3
  · rw [q_s_ne (by omega), q_s_ne (by omega)]; exact o6 j hj
  · rw [q_s_ne (by omega), q_s_ne (by omega)]; exact o7 j hj
theorem q_J1_canEncode {n : Nat} (hn : n < 128) (h : post (some (aI 1)) S) : w_J1_canEncode_fc78d [aI (nI n)] S post := by
  refine e_walk (stops := []) 20 ?_
  exact And.intro (fun c => absurd ((nI_ltI (a := 255) (by decide) (by omega)).mp c) (by omega)) (fun _ => h)
theorem q_J5_append1 {s o i io ln lo n : Nat} {f g : Nat → Int32} (hso : s ≠ o) (hT : q_T1 S s i f ln) (hO : q_T1 S o io g lo) (hio : i ≠ io) (hl : ln < 70) (hn : n < 128) (h : ∀ S2 i2, q_fx S S2 → i2 ≠ io → q_T1 S2 s i2 (upd f ln (nI n)) (ln + 1) → q_T1 S2 o io g lo → post (some (aR 10 s)) S2) : w_J5_append_3fe6f [aR 10 s, aI (nI n)] S post := by
  refine e_walk (stops := [5]) 20 ?_
  show e_Run tb_J5_append_3fe6f post e_no 5 [some (aR 10 s), some (aI (nI n))] [aI (mI S 10 s 3), aR 10 s] S 1 70
  rw [hT.2.2.1]
  refine e_walk (stops := [7]) 20 ?_
  show e_Run tb_J5_append_3fe6f post e_no 7 [some (aR 10 s), some (aI (nI n))] [aI (nI ln + 1), aR 10 s] S 1 70
  rw [nI_1]
  refine e_walk (stops := [10]) 20 ?_
  refine And.intro (Nat.le_refl 1) (And.intro (Nat.le_refl 70) ?_)
  refine q_J5_ensure hso hT hO hio (by omega) (by omega) (fun S2 i2 fx hi2 hcap hT2 hO2 => ?_)
  have hT2' := hT2
  obtain ⟨h0, h1, h3, h45, h6, h7⟩ := hT2
  refine e_walk (stops := [14]) 20 ?_
  refine q_J5_isLatin1 h1 ?_
  refine e_walk (stops := [21]) 20 ?_
  refine And.intro (fun c => absurd c (by decide)) (fun _ => ?_)
  refine q_J1_canEncode hn ?_
  refine e_walk (stops := [28]) 20 ?_
  refine And.intro (fun c => absurd c (by decide)) (fun _ => ?_)
  show e_Run tb_J5_append_3fe6f post e_no 28 [some (aR 10 s), some (aI (nI n))] [aO (mR S2 10 s 0)] S2 0 0
  rw [h0]
  refine e_walk (stops := [33]) 20 ?_
  show e_Run tb_J5_append_3fe6f post e_no 33 [some (aR 10 s), some (aI (nI n))] [aI (mI S2 10 s 3), aR 10 s, aR 11 i2] S2 0 0
  rw [h3]
  refine e_walk (stops := [41]) 20 ?_
  show e_Run tb_J5_append_3fe6f post e_no 41 [some (aR 10 s), some (aI (nI n))] [aI (nI n).toInt8.toInt32, aI (nI ln), aR 11 i2] (sI S2 10 s 3 (nI ln + 1)) 0 0
  rw [nI_1]
  refine e_walk (stops := []) 20 ?_
  refine And.intro (q_in (n := ln) (L := i2 % 65536) rfl (by omega) (by omega)) ?_
  show post (some (aR 10 s)) (sI (sI S2 10 s 3 (nI (ln + 1))) 11 i2 (nI ln).toNatClampNeg (vp_nar .byte (nI n).toInt8.toInt32))
  rw [nI_clamp (by omega), q_by_nar hn]
  obtain ⟨a1, a2⟩ := q_T1_add (n := n) hso hT2' hO2 hi2 (by omega) hn
  exact h _ i2 ((fx.sI (Or.inl rfl)).sI (Or.inr rfl)) hi2 a1 a2
theorem q_J4_append1 {s o i io ln lo n : Nat} {f g : Nat → Int32} (hso : s ≠ o) (hT : q_T1 S s i f ln) (hO : q_T1 S o io g lo) (hio : i ≠ io) (hl : ln < 70) (hn : n < 128) (h : ∀ S2 i2, q_fx S S2 → i2 ≠ io → q_T1 S2 s i2 (upd f ln (nI n)) (ln + 1) → q_T1 S2 o io g lo → post (some (aR 10 s)) S2) : w_J4_append_cf468 [aR 10 s, aI (nI n)] S post := by
  refine e_walk (stops := [5]) 20 ?_
  refine And.intro (Nat.le_refl 1) (And.intro (Nat.le_refl 70) ?_)
  refine q_J5_append1 hso hT hO hio hl hn (fun S2 i2 a c d e => ?_)
  exact e_walk (stops := []) 20 (h S2 i2 a c d e)
theorem q_J4_length {s i ln : Nat} {f : Nat → Int32} (hT : q_T1 S s i f ln) (h : post (some (aI (nI ln))) S) : w_J4_length_8abf5 [aR 10 s] S post := by
  rw [← hT.2.2.1] at h
  refine e_walk (stops := [4]) 20 ?_
  refine e_walk (stops := []) 20 ?_
  exact e_walk (stops := []) 20 h
theorem q_J5_ensure0 {s i ln m : Nat} {f : Nat → Int32} (hT : q_T1 S s i f ln) (hm : m ≤ i % 65536) (h : post none S) : w0_J5_ensureCapacityInternal_d00df [aR 10 s, aI (nI m)] S post := by
  obtain ⟨h0, h1, h3, ⟨h4, h5⟩, h6, h7⟩ := hT
  refine e_walk (stops := [4]) 20 ?_
  show e_Run tb_J5_ensureCapacityInternal_d00df post e_no 4 [some (aR 10 s), some (aI (nI m)), none] [aO (mR S 10 s 0)] S 0 0
  rw [h0]
  refine e_walk (stops := [9]) 20 ?_
  show e_Run tb_J5_ensureCapacityInternal_d00df post e_no 9 [some (aR 10 s), some (aI (nI m)), none] [aI (mI S 10 s 1), aI (nI (i % 65536))] S 0 0
  rw [h1]
  refine e_walk (stops := [10]) 1 ?_
  show e_Run tb_J5_ensureCapacityInternal_d00df post e_no 10 [some (aR 10 s), some (aI (nI m)), none] [aI (nI (i % 65536) >>> ((0 : Int32) &&& 31))] S 0 0
  rw [(q_sh0 _).1]
  refine e_walk (stops := []) 20 ?_
  refine And.intro (fun _ => h) (fun c => absurd ?_ c)
  show nI m - nI (i % 65536) ≤ 0
  rw [Int32.le_iff_toInt_le]
  have e1 : (nI m - nI (i % 65536)).toInt = (m : Int) - (i % 65536 : Nat) := by
    rw [Int32.toInt_sub, nI_toInt (by omega), nI_toInt (by omega)]
    exact Int.bmod_eq_of_le (by omega) (by omega)
  rw [e1]
  show (m : Int) - (i % 65536 : Nat) ≤ 0
  omega
theorem q_J4_clear {s o i io ln lo : Nat} {f g : Nat → Int32} (hso : s ≠ o) (hT : q_T1 S s i f ln) (hO : q_T1 S o io g lo) (hio : i ≠ io) (h : ∀ S2 i2, q_fx S S2 → i2 ≠ io → q_T1 S2 s i2 f 0 → q_T1 S2 o io g lo → post none S2) : w_J4_setLength_d00df [aR 10 s, aI 0] S post := by
  refine e_walk (stops := [5]) 20 ?_
  refine e_walk (stops := [13]) 20 ?_
  refine And.intro (fun _ => ?_) (fun c => absurd (by decide) c)
  refine e_walk (stops := [18]) 20 ?_
  show w0_J5_ensureCapacityInternal_d00df [aR 10 s, aI (nI 0)] S _
  refine q_J5_ensure0 (m := 0) hT (Nat.zero_le _) ?_
  obtain ⟨S2, i2, fx, hi2, hT2, hO2, e2⟩ : ∃ S2 i2, q_fx S S2 ∧ i2 ≠ io ∧ q_T1 S2 s i2 f ln ∧ q_T1 S2 o io g lo ∧ S2 = S := ⟨S, i, q_fx.rf, hio, hT, hO, rfl⟩
  rw [← e2]
  obtain ⟨h0, h1, h3, h45, h6, h7⟩ := hT2
  have h70 := h45.2
  have fin : ∀ S3, q_fx S2 S3 → (∀ j, j ≠ 2 → mI S3 10 s j = mI S2 10 s j) → (∀ i, i ≠ s → mI S3 10 i = mI S2 10 i) → (∀ i, mI S3 11 i = mI S2 11 i) → mR S3 = mR S2 → post none (sI S3 10 s 3 0) := fun S3 fx3 e1 e2 e3 e4 => by
    refine h _ i2 ((fx.trans fx3).sI (Or.inl rfl)) hi2 ⟨?_, ?_, ?_, ⟨Nat.zero_le _, h70⟩, fun j hj => ?_, fun j hj => absurd hj (Nat.not_lt_zero j)⟩ ?_
    · rw [show mR (sI S3 10 s 3 0) = mR S3 from rfl, e4]; exact h0
    · rw [q_s_ne (by omega), e1 1 (by decide)]; exact h1
    · rw [q_s_self]; rfl
    · rw [q_s_ne (by omega), e3]; exact h6 j hj
    · obtain ⟨o0, o1, o3, o4, o6, o7⟩ := hO2
      refine ⟨?_, ?_, ?_, o4, fun j hj => ?_, fun j hj => ?_⟩
      · rw [show mR (sI S3 10 s 3 0) = mR S3 from rfl, e4]; exact o0
      · rw [q_s_ne (by omega), e2 o (by omega)]; exact o1
      · rw [q_s_ne (by omega), e2 o (by omega)]; exact o3
      · rw [q_s_ne (by omega), e3]; exact o6 j hj
      · rw [q_s_ne (by omega), e3]; exact o7 j hj
  have h60 := h45.1
  refine e_walk (stops := [22]) 20 ?_
  show e_Run tb_J5_setLength_d00df _ e_no 22 [some (aR 10 s), some (aI 0)] [aI (mI S2 10 s 3)] S2 0 0
  rw [h3]
  refine e_walk (stops := [67]) 20 ?_
  refine And.intro (fun _ => ?_) (fun c => absurd (nI_le (a := 0) (by omega) (by omega)) c)
  show e_Run tb_J5_setLength_d00df _ e_no 67 [some (aR 10 s), some (aI 0)] [aI (mI S2 10 s 3)] S2 0 0
  rw [h3]
  refine e_walk (stops := [76]) 20 ?_
  refine And.intro (fun _ => ?_) (fun _ => ?_)
  · refine e_walk (stops := []) 20 ?_
    refine e_walk (stops := []) 20 ?_
    exact fin S2 q_fx.rf (fun _ _ => rfl) (fun _ _ => rfl) (fun _ => rfl) rfl
  · refine And.intro ⟨rfl, rfl⟩ ?_
    refine e_walk (stops := []) 20 ?_
    refine e_walk (stops := []) 20 ?_
    exact fin _ (q_fx.rf.sI (Or.inl rfl)) (fun j hj => q_s_ne (by omega)) (fun i hi => e_u3_ne (fun z => hi (congrArg Prod.snd z))) (fun i => (e_u3_ne (f := mI S2) (k := 10) (i := s) (j := 2) (v := 1) (k2 := 11) (i2 := i) (fun z => absurd (congrArg Prod.fst z) (show ¬ (11 : Nat) = 10 by decide)))) rfl
theorem q_J0_coder {q : Nat} (hq : q < 4) (h : post (some (aI 0)) S) : w_J0_coder_7d493 [aR 20 q] S post := by
  rcases (show q = 0 ∨ q = 1 ∨ q = 2 ∨ q = 3 by omega) with rfl | rfl | rfl | rfl <;> exact e_walk (stops := []) 20 (And.intro (fun c => absurd c (by decide)) (fun _ => And.intro rfl h))
theorem q_J0_length {q : Nat} (hq : q < 4) (h : post (some (aI (nI (e_sl.getD q 0)))) S) : w_J0_length_8abf5 [aR 20 q] S post := by
  have key : ∀ q, q < 10 → nI (e_sl.getD q 0) >>> ((0 : Int32) &&& 31) = nI (e_sl.getD q 0) := fun q _ => (q_sh0 _).1
  rcases (show q = 0 ∨ q = 1 ∨ q = 2 ∨ q = 3 by omega) with rfl | rfl | rfl | rfl
  · refine e_walk (stops := [9]) 20 ?_
    refine q_J0_coder (q := 0) (by decide) ?_
    rw [← key 0 (by decide)] at h
    exact e_walk (stops := []) 20 h
  · refine e_walk (stops := [9]) 20 ?_
    refine q_J0_coder (q := 1) (by decide) ?_
    rw [← key 1 (by decide)] at h
    exact e_walk (stops := []) 20 h
  · refine e_walk (stops := [9]) 20 ?_
    refine q_J0_coder (q := 2) (by decide) ?_
    rw [← key 2 (by decide)] at h
    exact e_walk (stops := []) 20 h
  · refine e_walk (stops := [9]) 20 ?_
    refine q_J0_coder (q := 3) (by decide) ?_
    rw [← key 3 (by decide)] at h
    exact e_walk (stops := []) 20 h
/-- a sign of a literal -/
theorem q_chr {n : Nat} (hn : n < 128) : (((nI n) &&& 255).toUInt32 % 65536).toInt32 = nI n ∧ narrow .char (.int (nI n)) = .int (nI n) := by
  have key : ∀ n, n < 128 → (((nI n) &&& 255).toUInt32 % 65536).toInt32 = nI n ∧ narrow .char (.int (nI n)) = .int (nI n) := by
    have k1 : ∀ n, n < 128 → (((nI n) &&& 255).toUInt32 % 65536).toInt32 = nI n := by decide +kernel
    have k2 : ∀ n, n < 128 → (nI n).toUInt32.toUInt16.toUInt32.toInt32 = nI n := by decide +kernel
    exact fun n hn => ⟨k1 n hn, congrArg Value.int (k2 n hn)⟩
  exact key n hn
theorem q_checkIndex {x y : Int32} (h1 : ¬ x < 0) (h2 : x < y) (h : post none S) : w_J0_checkIndex_df160 [aI x, aI y] S post := by
  refine e_walk (stops := [8]) 20 ?_
  intro o
  refine e_walk (stops := []) 20 ?_
  refine And.intro (fun c => absurd c h1) (fun _ => And.intro (fun _ => ?_) (fun c => absurd h2 c))
  exact e_walk (stops := []) 20 h
theorem q_J4_charAt {s i ln j : Nat} {f : Nat → Int32} (hT : q_T1 S s i f ln) (hj : j < ln) (h : post (some (aI (f j))) S) : w_J4_charAt_5068e [aR 10 s, aI (nI j)] S post := by
  obtain ⟨h0, h1, h3, ⟨h4, h5⟩, h6, h7⟩ := hT
  obtain ⟨n, hn, en⟩ := h6 j (by omega)
  obtain ⟨c1, c2⟩ := q_chr hn
  rw [← h7 j hj, en] at h
  refine e_walk (stops := [5]) 20 ?_
  refine e_walk (stops := [4]) 20 ?_
  show e_Run tb_J5_charAt_5068e _ e_no 4 [some (aR 10 s), some (aI (nI j)), none, none, none] [aI (mI S 10 s 1)] S 0 0
  rw [h1]
  refine e_walk (stops := [9]) 20 ?_
  show e_Run tb_J5_charAt_5068e _ e_no 9 [some (aR 10 s), some (aI (nI j)), some (aI 0), none, none] [aO (mR S 10 s 0)] S 0 0
  rw [h0]
  refine e_walk (stops := [14]) 20 ?_
  show e_Run tb_J5_charAt_5068e _ e_no 14 [some (aR 10 s), some (aI (nI j)), some (aI 0), some (aR 11 i), none] [aI (mI S 10 s 3)] S 0 0
  rw [h3]
  refine e_walk (stops := [18]) 20 ?_
  show e_Run tb_J5_charAt_5068e _ e_no 18 [some (aR 10 s), some (aI (nI j)), some (aI 0), some (aR 11 i), none] [aI (nI (i % 65536) >>> ((0 : Int32) &&& 31)), aI (nI ln)] S 0 0
  rw [(q_sh0 _).1]
  refine e_walk (stops := [21]) 20 ?_
  show e_Run tb_J5_charAt_5068e _ e_no 21 [some (aR 10 s), some (aI (nI j)), some (aI 0), some (aR 11 i), none] [aI (if nI (i % 65536) < nI ln then nI (i % 65536) else nI ln)] S 0 0
  rw [if_neg (fun z => absurd ((nI_ltI (by omega) (by omega)).mp z) (by omega))]
  refine e_walk (stops := [29]) 20 ?_
  refine q_checkIndex (nI_pos (by omega)) (nI_lt hj (by omega)) ?_
  refine e_walk (stops := [36]) 20 ?_
  refine And.intro (fun _ => ?_) (fun c => absurd rfl c)
  refine And.intro (q_in (n := j) (L := i % 65536) rfl (by omega) (by omega)) ?_
  show e_Run tb_J5_charAt_5068e _ e_no 36 [some (aR 10 s), some (aI (nI j)), some (aI 0), some (aR 11 i), some (aI (nI ln))] [aI (mI S 11 i (nI j).toNatClampNeg)] S 0 0
  rw [nI_clamp (by omega), en]
  refine e_walk (stops := [41]) 20 ?_
  show e_Run tb_J5_charAt_5068e _ e_no 41 [some (aR 10 s), some (aI (nI j)), some (aI 0), some (aR 11 i), some (aI (nI ln))] [aI ((nI n &&& 255).toUInt32 % 65536).toInt32] S 0 0
  rw [c1]
  refine e_walk (stops := []) 20 ?_
  refine And.intro c2 ?_
  refine e_walk (stops := []) 20 ?_
  exact And.intro c2 h
end SBs
