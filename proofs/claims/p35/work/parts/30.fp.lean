/-! Doubles: a share, doubled till it is 1 or more. Own work. -/
def fp_n (c : Nat) (q : Int) : UInt64 := .ofNat (FP.Core.encode FP.Core.b64 (.fin false c q))
def fp_ok (c : Nat) (q : Int) : Prop := 4503599627370496 ≤ c ∧ c < 9007199254740992 ∧ -1074 ≤ q ∧ q ≤ 971
section FPP
theorem fp_qmin : FP.Core.b64.qmin = -1074 := by decide
theorem fp_qmax : FP.Core.b64.qmax = 971 := by decide
theorem fp_tails : FP.Core.b64.tails = 4503599627370496 := by decide
theorem fp_exps : FP.Core.b64.exps = 2048 := by decide
theorem fp_enc {c : Nat} {q : Int} (h : fp_ok c q) : FP.Core.encode FP.Core.b64 (.fin false c q) = ((q + 1074).toNat + 1) * 4503599627370496 + (c - 4503599627370496) := by
  obtain ⟨h1, h2, h3, h4⟩ := h
  show (if c < FP.Core.b64.tails then FP.Core.assemble FP.Core.b64 false 0 c else FP.Core.assemble FP.Core.b64 false ((q - FP.Core.b64.qmin).toNat + 1) (c - FP.Core.b64.tails)) = _
  rw [fp_tails, if_neg (by omega), fp_qmin]
  unfold FP.Core.assemble
  rw [fp_tails, fp_exps]
  simp only [Bool.toNat_false, Nat.zero_mul, Nat.zero_add]
  rw [show q - -1074 = q + 1074 by omega]
theorem fp_toNat {c : Nat} {q : Int} (h : fp_ok c q) : (fp_n c q).toNat = ((q + 1074).toNat + 1) * 4503599627370496 + (c - 4503599627370496) := by
  have h0 := h
  obtain ⟨h1, h2, h3, h4⟩ := h
  unfold fp_n
  rw [fp_enc h0, UInt64.toNat_ofNat_of_lt']
  show _ < 18446744073709551616
  omega
theorem fp_dec {c : Nat} {q : Int} (h : fp_ok c q) : FP.Core.decode FP.Core.b64 (fp_n c q).toNat = .fin false c q := by
  rw [fp_toNat h]
  obtain ⟨h1, h2, h3, h4⟩ := h
  have hd : (((q + 1074).toNat + 1) * 4503599627370496 + (c - 4503599627370496)) / 4503599627370496 = (q + 1074).toNat + 1 := by omega
  have hm : (((q + 1074).toNat + 1) * 4503599627370496 + (c - 4503599627370496)) % 4503599627370496 = c - 4503599627370496 := by omega
  unfold FP.Core.decode FP.Core.fieldE FP.Core.fieldT FP.Core.fieldS
  rw [fp_tails, fp_exps, hd, hm, fp_qmin]
  rw [show ((q + 1074).toNat + 1) % 2048 = (q + 1074).toNat + 1 from Nat.mod_eq_of_lt (by omega), if_neg (by omega), if_neg (by omega), show ((q + 1074).toNat + 1) / 2048 % 2 = 0 by omega]
  rw [show 4503599627370496 + (c - 4503599627370496) = c by omega, show (-1074 : Int) + ((((q + 1074).toNat + 1 : Nat) : Int) - 1) = q by omega]
  rfl
/-- nothing finite or infinite is no number -/
theorem fp_nn (d : FP.Core.Datum) (h : (∃ s, d = .inf s) ∨ ∃ s c q, d = .fin s c q ∧ c < 9007199254740992 ∧ q ≤ 971) : vf_n64 (.ofNat (FP.Core.encode FP.Core.b64 d)) := by
  have key : ∀ (s : Bool) (E t : Nat), t < 4503599627370496 → E ≤ 2047 → (E = 2047 → t = 0) → vf_n64 (.ofNat (FP.Core.assemble FP.Core.b64 s E t)) := by
    intro s E t ht hE h0
    unfold vf_n64 FP.Core.assemble
    rw [fp_tails, fp_exps, UInt64.le_iff_toNat_le, UInt64.toNat_and]
    have hs : s.toNat ≤ 1 := by cases s <;> decide
    rw [UInt64.toNat_ofNat_of_lt' (by show _ < 18446744073709551616; omega)]
    show ((s.toNat * 2048 + E) * 4503599627370496 + t) &&& (2 ^ 63 - 1) ≤ 9218868437227405312
    rw [Nat.and_two_pow_sub_one_eq_mod]
    have : ((s.toNat * 2048 + E) * 4503599627370496 + t) % 2 ^ 63 = E * 4503599627370496 + t := by
      rcases (show s.toNat = 0 ∨ s.toNat = 1 by omega) with z | z <;> rw [z] <;> omega
    rw [this]
    rcases (show E = 2047 ∨ E ≤ 2046 by omega) with z | z
    · have := h0 z; omega
    · omega
  rcases h with ⟨s, rfl⟩ | ⟨s, c, q, rfl, hc, hq⟩
  · exact key s _ 0 (by decide) (by decide) (fun _ => rfl)
  · show vf_n64 (.ofNat (if c < FP.Core.b64.tails then FP.Core.assemble FP.Core.b64 s 0 c else FP.Core.assemble FP.Core.b64 s ((q - FP.Core.b64.qmin).toNat + 1) (c - FP.Core.b64.tails)))
    rw [fp_tails, fp_qmin]
    by_cases z : c < 4503599627370496
    · rw [if_pos z]
      exact key s 0 c z (by decide) (by omega)
    · rw [if_neg z]
      exact key s _ _ (by omega) (by omega) (by omega)
theorem fp_settle (s : Bool) (m : Nat) (q : Int) : (∃ s2, FP.Core.settle FP.Core.b64 s m q = .inf s2) ∨ ∃ s2 c q2, FP.Core.settle FP.Core.b64 s m q = .fin s2 c q2 ∧ c < 9007199254740992 ∧ q2 ≤ 971 := by
  unfold FP.Core.settle
  have hp : 2 ^ FP.Core.b64.p = 9007199254740992 := by decide
  rw [hp]
  have hb : ∀ c q, c < 9007199254740992 → (∃ s2, FP.Core.bound FP.Core.b64 s c q = .inf s2) ∨ ∃ s2 c2 q2, FP.Core.bound FP.Core.b64 s c q = .fin s2 c2 q2 ∧ c2 < 9007199254740992 ∧ q2 ≤ 971 := by
    intro c q hc
    unfold FP.Core.bound
    rw [fp_qmax]
    by_cases z : q ≤ 971
    · rw [if_pos z]; exact Or.inr ⟨_, _, _, rfl, hc, z⟩
    · rw [if_neg z]; exact Or.inl ⟨_, rfl⟩
  by_cases z : m < 9007199254740992
  · simp only [z, if_true]; exact hb m q z
  · simp only [z, if_false]; exact hb FP.Core.b64.tails (q + 1) (by decide)
theorem fp_rr (s : Bool) (num den : Nat) (e : Int) : vf_n64 (.ofNat (FP.Core.encode FP.Core.b64 (FP.Core.roundRatio FP.Core.b64 s num den e))) := by
  refine fp_nn _ ?_
  unfold FP.Core.roundRatio
  by_cases z : num = 0
  · rw [if_pos z]
    exact Or.inr ⟨s, 0, FP.Core.b64.qmin, rfl, by decide, by rw [fp_qmin]; decide⟩
  · rw [if_neg z]
    exact fp_settle s (FP.Core.nearest (FP.Core.unitsNum num e (FP.Core.quantum FP.Core.b64 num den e)) (FP.Core.unitsDen den e (FP.Core.quantum FP.Core.b64 num den e))) (FP.Core.quantum FP.Core.b64 num den e)
theorem fp_mulnn {x y : UInt64} {s t : Bool} {c d : Nat} {q r : Int} (hx : FP.Core.decode FP.Core.b64 x.toNat = .fin s c q) (hy : FP.Core.decode FP.Core.b64 y.toNat = .fin t d r) : vf_n64 (FP.dmul x y) := by
  show vf_n64 (.ofNat (FP.Core.encode FP.Core.b64 (FP.Core.round FP.Core.b64 (FP.Core.exactProduct (FP.Core.decode FP.Core.b64 x.toNat) (FP.Core.decode FP.Core.b64 y.toNat)))))
  rw [hx, hy]
  exact fp_rr _ _ _ _
theorem fp_subnn {x y : UInt64} {s t : Bool} {c d : Nat} {q r : Int} (hx : FP.Core.decode FP.Core.b64 x.toNat = .fin s c q) (hy : FP.Core.decode FP.Core.b64 y.toNat = .fin t d r) : vf_n64 (FP.dsub x y) := by
  show vf_n64 (.ofNat (FP.Core.encode FP.Core.b64 (FP.Core.round FP.Core.b64 (FP.Core.exactSum (FP.Core.decode FP.Core.b64 x.toNat) (FP.Core.negate (FP.Core.decode FP.Core.b64 y.toNat))))))
  rw [hx, hy]
  exact fp_rr _ _ _ _
theorem fp_divnn {x y : UInt64} {s t : Bool} {c d : Nat} {q r : Int} (hx : FP.Core.decode FP.Core.b64 x.toNat = .fin s c q) (hy : FP.Core.decode FP.Core.b64 y.toNat = .fin t d r) (hd : d ≠ 0) : vf_n64 (FP.ddiv x y) := by
  show vf_n64 (.ofNat (FP.Core.encode FP.Core.b64 (FP.Core.quotient FP.Core.b64 (FP.Core.decode FP.Core.b64 x.toNat) (FP.Core.decode FP.Core.b64 y.toNat))))
  rw [hx, hy]
  show vf_n64 (.ofNat (FP.Core.encode FP.Core.b64 (if d = 0 then (if c = 0 then .nan else .inf (s != t)) else FP.Core.roundRatio FP.Core.b64 (s != t) c d (q - r))))
  rw [if_neg hd]
  exact fp_rr _ _ _ _
theorem fp_log {n k : Nat} (h1 : 2 ^ k ≤ n) (h2 : n < 2 ^ (k + 1)) : n.log2 = k := (Nat.log2_eq_iff (by have := Nat.two_pow_pos k; omega)).mpr ⟨h1, h2⟩
theorem fp_two : FP.Core.decode FP.Core.b64 (4611686018427387904 : UInt64).toNat = .fin false 4503599627370496 (-51) := by decide +kernel
theorem fp_one : FP.Core.decode FP.Core.b64 (4607182418800017408 : UInt64).toNat = .fin false 4503599627370496 (-52) := by decide +kernel
theorem fp_big : FP.Core.decode FP.Core.b64 (4841369599423283200 : UInt64).toNat = .fin false 4503599627370496 0 := by decide +kernel
theorem fp_nul : FP.Core.decode FP.Core.b64 (0 : UInt64).toNat = .fin false 0 (-1074) := by decide +kernel
theorem fp_mul2 {c : Nat} {q : Int} (h : fp_ok c q) (hq : q + 1 ≤ 971) : FP.dmul (fp_n c q) 4611686018427387904 = fp_n c (q + 1) := by
  show UInt64.ofNat (FP.Core.encode FP.Core.b64 (FP.Core.round FP.Core.b64 (FP.Core.exactProduct (FP.Core.decode FP.Core.b64 (fp_n c q).toNat) (FP.Core.decode FP.Core.b64 (4611686018427387904 : UInt64).toNat)))) = _
  rw [fp_dec h, fp_two]
  show UInt64.ofNat (FP.Core.encode FP.Core.b64 (FP.Core.roundRatio FP.Core.b64 false (c * 4503599627370496) 1 (q + -51))) = UInt64.ofNat (FP.Core.encode FP.Core.b64 (.fin false c (q + 1)))
  congr 2
  obtain ⟨h1, h2, h3, h4⟩ := h
  have hl : (c * 4503599627370496).log2 = 104 := fp_log (by omega) (by omega)
  have hlead : FP.Core.leading (c * 4503599627370496) 1 = 104 := by
    unfold FP.Core.leading
    rw [hl, show Nat.log2 1 = 0 by decide]
    show (if 1 * 2 ^ 104 ≤ c * 4503599627370496 * 2 ^ 0 then (104 : Int) else 103) = 104
    rw [if_pos (by omega)]
  have hqq : FP.Core.quantum FP.Core.b64 (c * 4503599627370496) 1 (q + -51) = q + 1 := by
    unfold FP.Core.quantum
    rw [hlead, fp_qmin]
    show max (-1074) (104 + (q + -51) - (53 - 1)) = q + 1
    omega
  unfold FP.Core.roundRatio
  rw [if_neg (by omega), hqq]
  unfold FP.Core.roundAt FP.Core.unitsNum FP.Core.unitsDen
  rw [show (q + -51 - (q + 1)).toNat = 0 by omega, show (q + 1 - (q + -51)).toNat = 52 by omega]
  have hn : FP.Core.nearest (c * 4503599627370496 * 2 ^ 0) (1 * 2 ^ 52) = c := by
    unfold FP.Core.nearest
    rw [show c * 4503599627370496 * 2 ^ 0 % (1 * 2 ^ 52) = 0 by omega, show c * 4503599627370496 * 2 ^ 0 / (1 * 2 ^ 52) = c by omega, if_pos (by decide)]
  rw [hn]
  unfold FP.Core.settle FP.Core.bound
  rw [if_pos (show c < 2 ^ FP.Core.b64.p from h2), if_pos (by rw [fp_qmax]; exact hq)]
theorem fp_lt1 {c : Nat} {q : Int} (h : fp_ok c q) (hq : q < -52) : FP.dcmp (fp_n c q) 4607182418800017408 = some .lt := by
  show FP.Core.order (FP.Core.decode FP.Core.b64 (fp_n c q).toNat) (FP.Core.decode FP.Core.b64 (4607182418800017408 : UInt64).toNat) = _
  rw [fp_dec h, fp_one]
  obtain ⟨h1, h2, h3, h4⟩ := h
  show some (compare (FP.Core.signed false (FP.Core.inUnits c q (min q (-52)))) (FP.Core.signed false (FP.Core.inUnits 4503599627370496 (-52) (min q (-52))))) = _
  rw [show min q (-52) = q by omega]
  have e1 : FP.Core.signed false (FP.Core.inUnits c q q) = (c : Int) := by
    show ((c * 2 ^ (q - q).toNat : Nat) : Int) = c
    rw [Int.sub_self]
    show ((c * 1 : Nat) : Int) = c
    rw [Nat.mul_one]
  have e2 : (9007199254740992 : Int) ≤ FP.Core.signed false (FP.Core.inUnits 4503599627370496 (-52) q) := by
    show (9007199254740992 : Int) ≤ ((4503599627370496 * 2 ^ (-52 - q).toNat : Nat) : Int)
    obtain ⟨k, hk⟩ : ∃ k, (-52 - q).toNat = k + 1 := ⟨(-52 - q).toNat - 1, by omega⟩
    rw [hk, Nat.pow_succ]
    have := Nat.two_pow_pos k
    omega
  exact congrArg some (Int.compare_eq_lt.mpr (by omega))
theorem fp_ge1 {c : Nat} {q : Int} (h : fp_ok c q) (hq : -52 ≤ q) : FP.dcmp (fp_n c q) 4607182418800017408 = some .eq ∨ FP.dcmp (fp_n c q) 4607182418800017408 = some .gt := by
  have e : FP.dcmp (fp_n c q) 4607182418800017408 = some (compare (FP.Core.signed false (FP.Core.inUnits c q (min q (-52)))) (FP.Core.signed false (FP.Core.inUnits 4503599627370496 (-52) (min q (-52))))) := by
    show FP.Core.order (FP.Core.decode FP.Core.b64 (fp_n c q).toNat) (FP.Core.decode FP.Core.b64 (4607182418800017408 : UInt64).toNat) = _
    rw [fp_dec h, fp_one]
    rfl
  obtain ⟨h1, h2, h3, h4⟩ := h
  rw [e, show min q (-52) = -52 by omega]
  have e2 : FP.Core.signed false (FP.Core.inUnits 4503599627370496 (-52) (-52)) = 4503599627370496 := by decide
  have e1 : (4503599627370496 : Int) ≤ FP.Core.signed false (FP.Core.inUnits c q (-52)) := by
    show (4503599627370496 : Int) ≤ ((c * 2 ^ (q - -52).toNat : Nat) : Int)
    have := Nat.two_pow_pos (q - -52).toNat
    have := Nat.le_mul_of_pos_right c this
    omega
  rw [e2]
  rcases (show FP.Core.signed false (FP.Core.inUnits c q (-52)) = 4503599627370496 ∨ 4503599627370496 < FP.Core.signed false (FP.Core.inUnits c q (-52)) by omega) with z | z
  · rw [z]; exact Or.inl rfl
  · exact Or.inr (congrArg some (Int.compare_eq_gt.mpr (by omega)))
theorem fp_gt0 {c : Nat} {q : Int} (h : fp_ok c q) : FP.dcmp (fp_n c q) 0 = some .gt := by
  show FP.Core.order (FP.Core.decode FP.Core.b64 (fp_n c q).toNat) (FP.Core.decode FP.Core.b64 (0 : UInt64).toNat) = _
  rw [fp_dec h, fp_nul]
  obtain ⟨h1, h2, h3, h4⟩ := h
  show some (compare (FP.Core.signed false (FP.Core.inUnits c q (min q (-1074)))) (FP.Core.signed false (FP.Core.inUnits 0 (-1074) (min q (-1074))))) = _
  have e2 : FP.Core.signed false (FP.Core.inUnits 0 (-1074) (min q (-1074))) = 0 := by
    show ((0 * 2 ^ (-1074 - min q (-1074)).toNat : Nat) : Int) = 0
    rw [Nat.zero_mul]
    rfl
  have e1 : (0 : Int) < FP.Core.signed false (FP.Core.inUnits c q (min q (-1074))) := by
    show (0 : Int) < ((c * 2 ^ (q - min q (-1074)).toNat : Nat) : Int)
    have := Nat.two_pow_pos (q - min q (-1074)).toNat
    have := Nat.le_mul_of_pos_right c this
    omega
  rw [e2]
  exact congrArg some (Int.compare_eq_gt.mpr e1)
/-- a whole number as a double -/
theorem fp_i2d {a : Nat} (h1 : 1 ≤ a) (h2 : a < 2 ^ 20) : fp_ok (a * 2 ^ (52 - a.log2)) ((a.log2 : Int) - 52) ∧ a.log2 ≤ 19 ∧ FP.i2d (nI a) = fp_n (a * 2 ^ (52 - a.log2)) ((a.log2 : Int) - 52) := by
  have hL1 : 2 ^ a.log2 ≤ a := Nat.log2_self_le (by omega)
  have hL2 : a < 2 ^ (a.log2 + 1) := Nat.lt_log2_self
  have hL3 : a.log2 ≤ 19 := by
    have := (Nat.log2_lt (show a ≠ 0 by omega)).mpr h2
    omega
  generalize hL : a.log2 = L at *
  have hpw : 2 ^ L * 2 ^ (52 - L) = 4503599627370496 := by
    rw [← Nat.pow_add, show L + (52 - L) = 52 by omega]
  have hp := Nat.two_pow_pos (52 - L)
  have hb1 : 4503599627370496 ≤ a * 2 ^ (52 - L) := by rw [← hpw]; exact Nat.mul_le_mul_right _ hL1
  have hb2 : a * 2 ^ (52 - L) < 9007199254740992 := by
    have z := Nat.mul_lt_mul_of_pos_right hL2 hp
    rw [Nat.pow_succ, Nat.mul_assoc, Nat.mul_comm 2, ← Nat.mul_assoc, hpw] at z
    exact z
  have hok : fp_ok (a * 2 ^ (52 - L)) ((L : Int) - 52) := ⟨hb1, hb2, by omega, by omega⟩
  refine ⟨hok, hL3, ?_⟩
  show UInt64.ofNat (FP.Core.encode FP.Core.b64 (FP.Core.round FP.Core.b64 (FP.Core.ofInt (nI a).toInt))) = _
  have hi : (nI a).toInt = (a : Int) := Int32.toInt_ofNat_of_lt (by omega)
  rw [hi]
  show UInt64.ofNat (FP.Core.encode FP.Core.b64 (FP.Core.round FP.Core.b64 (.fin (decide ((a : Int) < 0)) (a : Int).natAbs 0))) = UInt64.ofNat (FP.Core.encode FP.Core.b64 (.fin false (a * 2 ^ (52 - L)) ((L : Int) - 52)))
  congr 2
  rw [decide_eq_false (by omega), Int.natAbs_natCast]
  show FP.Core.roundRatio FP.Core.b64 false a 1 0 = _
  have hlead : FP.Core.leading a 1 = (L : Int) := by
    unfold FP.Core.leading
    rw [hL, show Nat.log2 1 = 0 by decide]
    show (if 1 * 2 ^ ((L : Int) - 0).toNat ≤ a * 2 ^ (-((L : Int) - 0)).toNat then ((L : Int) - 0) else (L : Int) - 0 - 1) = L
    rw [show ((L : Int) - 0).toNat = L by omega, show (-((L : Int) - 0)).toNat = 0 by omega, if_pos (by rw [Nat.one_mul, Nat.pow_zero, Nat.mul_one]; exact hL1), Int.sub_zero]
  have hqq : FP.Core.quantum FP.Core.b64 a 1 0 = (L : Int) - 52 := by
    unfold FP.Core.quantum
    rw [hlead, fp_qmin]
    show max (-1074) ((L : Int) + 0 - (53 - 1)) = (L : Int) - 52
    omega
  unfold FP.Core.roundRatio
  rw [if_neg (by omega), hqq]
  unfold FP.Core.roundAt FP.Core.unitsNum FP.Core.unitsDen
  rw [show (0 - ((L : Int) - 52)).toNat = 52 - L by omega, show ((L : Int) - 52 - 0).toNat = 0 by omega]
  have hn : FP.Core.nearest (a * 2 ^ (52 - L)) (1 * 2 ^ 0) = a * 2 ^ (52 - L) := by
    unfold FP.Core.nearest
    rw [show (1 * 2 ^ 0) = 1 by decide, Nat.mod_one, Nat.div_one, if_pos (by decide)]
  rw [hn]
  unfold FP.Core.settle FP.Core.bound
  rw [if_pos (show a * 2 ^ (52 - L) < 2 ^ FP.Core.b64.p from hb2), if_pos (by rw [fp_qmax]; omega)]
/-- a FP.Core.quotient of two of them -/
theorem fp_div {c d : Nat} {q r : Int} (hc : fp_ok c q) (hd : fp_ok d r) (he : -20 ≤ q - r ∧ q - r ≤ 20) : ∃ m k, fp_ok m k ∧ -73 ≤ k ∧ k ≤ -31 ∧ FP.ddiv (fp_n c q) (fp_n d r) = fp_n m k := by
  have e : FP.ddiv (fp_n c q) (fp_n d r) = .ofNat (FP.Core.encode FP.Core.b64 (if d = 0 then (if c = 0 then .nan else .inf (false != false)) else FP.Core.roundRatio FP.Core.b64 false c d (q - r))) := by
    show UInt64.ofNat (FP.Core.encode FP.Core.b64 (FP.Core.quotient FP.Core.b64 (FP.Core.decode FP.Core.b64 (fp_n c q).toNat) (FP.Core.decode FP.Core.b64 (fp_n d r).toNat))) = _
    rw [fp_dec hc, fp_dec hd]
    rfl
  obtain ⟨h1, h2, h3, h4⟩ := hc
  obtain ⟨g1, g2, g3, g4⟩ := hd
  rw [e, if_neg (by omega)]
  have hlc : c.log2 = 52 := fp_log (by omega) (by omega)
  have hld : d.log2 = 52 := fp_log (by omega) (by omega)
  have hlead : FP.Core.leading c d = if d ≤ c then 0 else -1 := by
    unfold FP.Core.leading
    rw [hlc, hld]
    show (if d * 2 ^ 0 ≤ c * 2 ^ 0 then (0 : Int) else 0 - 1) = _
    by_cases z : d ≤ c
    · rw [if_pos z, if_pos (by omega)]
    · rw [if_neg z, if_neg (by omega)]
      rfl
  have key : ∀ (x : Nat) (k : Int), -73 ≤ k → k ≤ -32 → 4503599627370496 * d ≤ x → x < 9007199254740992 * d → ∃ m k2, fp_ok m k2 ∧ -73 ≤ k2 ∧ k2 ≤ -31 ∧ FP.Core.settle FP.Core.b64 false (FP.Core.nearest x d) k = .fin false m k2 := by
    intro x k hk1 hk2 hx1 hx2
    have hd0 : 0 < d := by omega
    have hdv1 : 4503599627370496 ≤ x / d := (Nat.le_div_iff_mul_le hd0).mpr hx1
    have hdv2 : x / d < 9007199254740992 := (Nat.div_lt_iff_lt_mul hd0).mpr hx2
    have hn1 : 4503599627370496 ≤ FP.Core.nearest x d := by
      unfold FP.Core.nearest
      split
      · exact hdv1
      · split <;> omega
    have hn2 : FP.Core.nearest x d ≤ 9007199254740992 := by
      unfold FP.Core.nearest
      split
      · omega
      · split <;> omega
    generalize FP.Core.nearest x d = m at hn1 hn2
    unfold FP.Core.settle FP.Core.bound
    by_cases z : m < 9007199254740992
    · rw [if_pos (show m < 2 ^ FP.Core.b64.p from z), if_pos (by rw [fp_qmax]; omega)]
      exact ⟨m, k, ⟨hn1, z, by omega, by omega⟩, hk1, by omega, rfl⟩
    · rw [if_neg (show ¬ m < 2 ^ FP.Core.b64.p from z), if_pos (by rw [fp_qmax]; omega)]
      exact ⟨FP.Core.b64.tails, k + 1, ⟨by decide, by decide, by omega, by omega⟩, by omega, by omega, rfl⟩
  unfold FP.Core.roundRatio
  rw [if_neg (by omega)]
  unfold FP.Core.roundAt FP.Core.unitsNum FP.Core.unitsDen
  by_cases hcd : d ≤ c
  · have hqq : FP.Core.quantum FP.Core.b64 c d (q - r) = q - r - 52 := by
      unfold FP.Core.quantum
      rw [hlead, if_pos hcd, fp_qmin]
      show max (-1074) (0 + (q - r) - (53 - 1)) = q - r - 52
      omega
    rw [hqq, show (q - r - (q - r - 52)).toNat = 52 by omega, show (q - r - 52 - (q - r)).toNat = 0 by omega, Nat.pow_zero, Nat.mul_one]
    obtain ⟨m, k2, z1, z2, z3, z4⟩ := key (c * 2 ^ 52) (q - r - 52) (by omega) (by omega) (by omega) (by omega)
    exact ⟨m, k2, z1, z2, z3, by rw [z4]; rfl⟩
  · have hqq : FP.Core.quantum FP.Core.b64 c d (q - r) = q - r - 53 := by
      unfold FP.Core.quantum
      rw [hlead, if_neg hcd, fp_qmin]
      show max (-1074) (-1 + (q - r) - (53 - 1)) = q - r - 53
      omega
    rw [hqq, show (q - r - (q - r - 53)).toNat = 53 by omega, show (q - r - 53 - (q - r)).toNat = 0 by omega, Nat.pow_zero, Nat.mul_one]
    obtain ⟨m, k2, z1, z2, z3, z4⟩ := key (c * 2 ^ 53) (q - r - 53) (by omega) (by omega) (by omega) (by omega)
    exact ⟨m, k2, z1, z2, z3, by rw [z4]; rfl⟩
theorem fp_div0 {d : Nat} {r : Int} (hd : fp_ok d r) : FP.ddiv 0 (fp_n d r) = 0 := by
  show UInt64.ofNat (FP.Core.encode FP.Core.b64 (FP.Core.quotient FP.Core.b64 (FP.Core.decode FP.Core.b64 (0 : UInt64).toNat) (FP.Core.decode FP.Core.b64 (fp_n d r).toNat))) = 0
  rw [fp_dec hd, fp_nul]
  show UInt64.ofNat (FP.Core.encode FP.Core.b64 (if d = 0 then (if 0 = 0 then .nan else .inf (false != false)) else FP.Core.roundRatio FP.Core.b64 false 0 d (-1074 - r))) = 0
  obtain ⟨g1, g2, g3, g4⟩ := hd
  rw [if_neg (by omega)]
  unfold FP.Core.roundRatio
  rw [if_pos rfl, fp_qmin]
  decide +kernel
theorem fp_i2d0 : FP.i2d (nI 0) = 0 := by decide +kernel
/-- the share of parts that were filled: a number, 0 or of a written form -/
theorem fp_share {a b : Nat} (ha : a < 2 ^ 20) (hb1 : 1 ≤ b) (hb : b < 2 ^ 20) : vf_n64 (FP.ddiv (FP.i2d (nI a)) (FP.i2d (nI b))) ∧ ((a = 0 ∧ FP.ddiv (FP.i2d (nI a)) (FP.i2d (nI b)) = 0) ∨ ∃ m k, fp_ok m k ∧ -73 ≤ k ∧ k ≤ -31 ∧ FP.ddiv (FP.i2d (nI a)) (FP.i2d (nI b)) = fp_n m k) := by
  obtain ⟨b1, b2, b3⟩ := fp_i2d hb1 hb
  have hb0 : b * 2 ^ (52 - b.log2) ≠ 0 := by have := b1.1; omega
  rcases Nat.eq_zero_or_pos a with rfl | h
  · rw [fp_i2d0, b3]
    exact ⟨fp_divnn fp_nul (fp_dec b1) hb0, Or.inl ⟨rfl, fp_div0 b1⟩⟩
  · obtain ⟨a1, a2, a3⟩ := fp_i2d h ha
    rw [a3, b3]
    exact ⟨fp_divnn (fp_dec a1) (fp_dec b1) hb0, Or.inr (fp_div a1 b1 (by omega))⟩
end FPP
