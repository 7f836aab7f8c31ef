/-! What walks come to: StringBuilder, 2: names and figures laid behind. Own work. -/
section SBs2
variable {S S1 S2 : eM} {post : eQ}
theorem q_cpL_ne {S : eM} {i0 k i sp dp n k2 i2 : Nat} (h : ¬ (k2 = k ∧ i2 = i)) : mI (e_cpL S i0 k i sp dp n) k2 i2 = mI S k2 i2 := by
  show (if k2 = k ∧ i2 = i then va_cpy (fun j => (e_sb.getD i0 []).getD j 0) (mI S k i) sp dp n else mI S k2 i2) = _
  rw [if_neg h]
theorem q_cpL_eq {S : eM} {i0 k i dp n j : Nat} : mI (e_cpL S i0 k i 0 dp n) k i j = if dp ≤ j ∧ j < dp + n then (e_sb.getD i0 []).getD (j - dp) 0 else mI S k i j := by
  show (if k = k ∧ i = i then va_cpy (fun j => (e_sb.getD i0 []).getD j 0) (mI S k i) 0 dp n else mI S k i) j = _
  rw [if_pos ⟨rfl, rfl⟩]
  unfold va_cpy
  rw [Nat.zero_add]
theorem q_lit_by {q j : Nat} (hq : q < 4) (hj : j < 8) : q_by ((e_sb.getD q []).getD j 0) := by
  have key : ∀ q, q < 4 → ∀ j, j < 8 → ∃ n, n < 128 ∧ (e_sb.getD q []).getD j 0 = nI n := by decide +kernel
  exact key q hq j hj
theorem q_sl_le {q : Nat} (hq : q < 4) : e_sl.getD q 0 ≤ 8 := by
  have key : ∀ q, q < 4 → e_sl.getD q 0 ≤ 8 := by decide
  exact key q hq
/-- signs with a name laid behind ln of them -/
def q_cat (f : Nat → Int32) (ln q : Nat) : Nat → Int32 := fun j => if ln ≤ j then (e_sb.getD q []).getD (j - ln) 0 else f j
theorem q_J5_inflate {s q : Nat} (hq : q < 4) (h1 : mI S 10 s 1 = 0) (h : post none S) : w_J5_inflateIfNeededFor_a7421 [aR 10 s, aR 20 q] S post := by
  refine e_walk (stops := [10]) 20 ?_
  refine And.intro (fun c => absurd c (by decide)) (fun _ => ?_)
  show e_Run tb_J5_inflateIfNeededFor_a7421 post e_no 10 [some (aR 10 s), some (aR 20 q)] [aI (mI S 10 s 1)] S 0 0
  rw [h1]
  refine e_walk (stops := [14]) 20 ?_
  refine q_J0_coder (by omega) ?_
  refine e_walk (stops := []) 20 ?_
  exact And.intro (fun _ => h) (fun c => absurd rfl c)
theorem q_J0_getBytes {q i ln : Nat} (hq : q < 4) (hl : ln + e_sl.getD q 0 ≤ i % 65536) (h : post none (e_cpL S q 11 i 0 ln (e_sl.getD q 0))) : w_J0_getBytes_840e7 [aR 20 q, aR 11 i, aI (nI ln), aI 0] S post := by
  have c0 : ((0 : Int32)).toNatClampNeg = 0 := by decide
  have fin : ∀ q, q < 4 → ln + e_sl.getD q 0 ≤ i % 65536 → post none (e_cpL S q 11 i 0 ln (e_sl.getD q 0)) → (¬ (0 : Int32) < 0 ∧ ¬ nI ln < 0 ∧ ¬ nI (e_sl.getD q 0) < 0 ∧ ((0 : Int32)).toNatClampNeg + (nI (e_sl.getD q 0)).toNatClampNeg ≤ e_sl.getD q 0 ∧ (nI ln).toNatClampNeg + (nI (e_sl.getD q 0)).toNatClampNeg ≤ e_ln 11 i) ∧ post none (e_cpL S q 11 i ((0 : Int32)).toNatClampNeg (nI ln).toNatClampNeg (nI (e_sl.getD q 0)).toNatClampNeg) := fun q hq hl h => by
    have h8 := q_sl_le (q := q) (by omega)
    have e1 : (nI ln).toNatClampNeg = ln := nI_clamp (by omega)
    have e2 : (nI (e_sl.getD q 0)).toNatClampNeg = e_sl.getD q 0 := nI_clamp (by omega)
    rw [c0, e1, e2]
    exact ⟨⟨by decide, nI_pos (by omega), nI_pos (by omega), by omega, hl⟩, h⟩
  rcases (show q = 0 ∨ q = 1 ∨ q = 2 ∨ q = 3 by omega) with rfl | rfl | rfl | rfl
  · refine e_walk (stops := [4]) 20 ?_
    refine q_J0_coder (q := 0) (by decide) ?_
    refine e_walk (stops := [17]) 20 ?_
    refine And.intro (fun _ => ?_) (fun c => absurd rfl c)
    show e_Run tb_J0_getBytes_840e7 post e_no 17 [some (aR 20 0), some (aR 11 i), some (aI (nI ln)), some (aI 0)] [aI (nI ln <<< ((0 : Int32) &&& 31)), aR 11 i, aI 0, aR 21 0] S 0 0
    rw [(q_sh0 _).2]
    exact e_walk (stops := []) 20 (fin 0 (by decide) hl h)
  · refine e_walk (stops := [4]) 20 ?_
    refine q_J0_coder (q := 1) (by decide) ?_
    refine e_walk (stops := [17]) 20 ?_
    refine And.intro (fun _ => ?_) (fun c => absurd rfl c)
    show e_Run tb_J0_getBytes_840e7 post e_no 17 [some (aR 20 1), some (aR 11 i), some (aI (nI ln)), some (aI 0)] [aI (nI ln <<< ((0 : Int32) &&& 31)), aR 11 i, aI 0, aR 21 1] S 0 0
    rw [(q_sh0 _).2]
    exact e_walk (stops := []) 20 (fin 1 (by decide) hl h)
  · refine e_walk (stops := [4]) 20 ?_
    refine q_J0_coder (q := 2) (by decide) ?_
    refine e_walk (stops := [17]) 20 ?_
    refine And.intro (fun _ => ?_) (fun c => absurd rfl c)
    show e_Run tb_J0_getBytes_840e7 post e_no 17 [some (aR 20 2), some (aR 11 i), some (aI (nI ln)), some (aI 0)] [aI (nI ln <<< ((0 : Int32) &&& 31)), aR 11 i, aI 0, aR 21 2] S 0 0
    rw [(q_sh0 _).2]
    exact e_walk (stops := []) 20 (fin 2 (by decide) hl h)
  · refine e_walk (stops := [4]) 20 ?_
    refine q_J0_coder (q := 3) (by decide) ?_
    refine e_walk (stops := [17]) 20 ?_
    refine And.intro (fun _ => ?_) (fun c => absurd rfl c)
    show e_Run tb_J0_getBytes_840e7 post e_no 17 [some (aR 20 3), some (aR 11 i), some (aI (nI ln)), some (aI 0)] [aI (nI ln <<< ((0 : Int32) &&& 31)), aR 11 i, aI 0, aR 21 3] S 0 0
    rw [(q_sh0 _).2]
    exact e_walk (stops := []) 20 (fin 3 (by decide) hl h)
theorem q_J4_appendS {s o i io ln lo q : Nat} {f g : Nat → Int32} (hq : q < 4) (hso : s ≠ o) (hT : q_T1 S s i f ln) (hO : q_T1 S o io g lo) (hio : i ≠ io) (hl : ln < 60) (h : ∀ S2 i2, q_fx S S2 → i2 ≠ io → q_T1 S2 s i2 (q_cat f ln q) (ln + e_sl.getD q 0) → q_T1 S2 o io g lo → post (some (aR 10 s)) S2) : w_J4_append_15ec4 [aR 10 s, aR 20 q] S post := by
  have h8 := q_sl_le (q := q) (by omega)
  refine e_walk (stops := [5]) 20 ?_
  refine And.intro (Nat.le_refl 1) (And.intro (Nat.le_refl 70) ?_)
  refine e_walk (stops := [13]) 20 ?_
  refine q_J0_length (by omega) ?_
  refine e_walk (stops := [19]) 20 ?_
  show e_Run tb_J5_append_cf1ce _ e_no 19 [some (aR 10 s), some (aR 20 q), some (aI (nI (e_sl.getD q 0)))] [aI (mI S 10 s 3), aR 10 s] S 1 70
  rw [hT.2.2.1]
  refine e_walk (stops := [21]) 20 ?_
  show e_Run tb_J5_append_cf1ce _ e_no 21 [some (aR 10 s), some (aR 20 q), some (aI (nI (e_sl.getD q 0)))] [aI (nI ln + nI (e_sl.getD q 0)), aR 10 s] S 1 70
  rw [nI_add]
  refine e_walk (stops := [24]) 20 ?_
  refine And.intro (Nat.le_refl 1) (And.intro (Nat.le_refl 70) ?_)
  refine q_J5_ensure hso hT hO hio (by omega) (by omega) (fun S2 i2 fx hi2 hcap hT2 hO2 => ?_)
  obtain ⟨h0, h1, h3, ⟨h4, h5⟩, h6, h7⟩ := hT2
  refine e_walk (stops := [29]) 20 ?_
  show e_Run tb_J5_append_cf1ce _ e_no 29 [some (aR 10 s), some (aR 20 q), some (aI (nI (e_sl.getD q 0)))] [aI (mI S2 10 s 3), aR 10 s] S2 0 0
  rw [h3]
  refine e_walk (stops := [33]) 20 ?_
  refine e_walk (stops := [5]) 20 ?_
  refine q_J5_inflate hq h1 ?_
  refine e_walk (stops := [10]) 20 ?_
  show e_Run tb_J5_putStringAt_47b60 _ e_no 10 [some (aR 10 s), some (aI (nI ln)), some (aR 20 q)] [aO (mR S2 10 s 0), aR 20 q] S2 0 0
  rw [h0]
  refine e_walk (stops := [15]) 20 ?_
  show e_Run tb_J5_putStringAt_47b60 _ e_no 15 [some (aR 10 s), some (aI (nI ln)), some (aR 20 q)] [aI (mI S2 10 s 1), aI (nI ln), aR 11 i2, aR 20 q] S2 0 0
  rw [h1]
  refine e_walk (stops := [18]) 20 ?_
  refine q_J0_getBytes hq hcap ?_
  refine e_walk (stops := []) 20 ?_
  have e3 : mI (e_cpL S2 q 11 i2 0 ln (e_sl.getD q 0)) 10 s 3 = nI ln := by rw [q_cpL_ne (by omega)]; exact h3
  refine e_walk (stops := [38]) 20 ?_
  show e_Run tb_J5_append_cf1ce _ e_no 38 [some (aR 10 s), some (aR 20 q), some (aI (nI (e_sl.getD q 0)))] [aI (mI (e_cpL S2 q 11 i2 0 ln (e_sl.getD q 0)) 10 s 3), aR 10 s] (e_cpL S2 q 11 i2 0 ln (e_sl.getD q 0)) 0 0
  rw [e3]
  refine e_walk (stops := [40]) 20 ?_
  show e_Run tb_J5_append_cf1ce _ e_no 40 [some (aR 10 s), some (aR 20 q), some (aI (nI (e_sl.getD q 0)))] [aI (nI ln + nI (e_sl.getD q 0)), aR 10 s] (e_cpL S2 q 11 i2 0 ln (e_sl.getD q 0)) 0 0
  rw [nI_add]
  refine e_walk (stops := []) 20 ?_
  refine e_walk (stops := []) 20 ?_
  refine h (sI (e_cpL S2 q 11 i2 0 ln (e_sl.getD q 0)) 10 s 3 (nI (ln + e_sl.getD q 0))) i2 (fun k i3 n10 n11 => ⟨?_, (fx k i3 n10 n11).2.1, (fx k i3 n10 n11).2.2⟩) hi2 ⟨h0, ?_, q_s_self, ⟨hcap, h5⟩, fun j hj => ?_, fun j hj => ?_⟩ ?_
  · rw [show mI (sI (e_cpL S2 q 11 i2 0 ln (e_sl.getD q 0)) 10 s 3 (nI (ln + e_sl.getD q 0))) k i3 = mI (e_cpL S2 q 11 i2 0 ln (e_sl.getD q 0)) k i3 from e_u3_ne (fun z => n10 (congrArg Prod.fst z)), q_cpL_ne (fun z => n11 z.1)]
    exact (fx k i3 n10 n11).1
  · rw [q_s_ne (by omega), q_cpL_ne (by omega)]; exact h1
  · rw [q_s_ne (by omega), q_cpL_eq]
    split
    · exact q_lit_by (by omega) (by omega)
    · exact h6 j hj
  · rw [q_s_ne (by omega), q_cpL_eq]
    unfold q_cat
    by_cases z : ln ≤ j
    · rw [if_pos ⟨z, hj⟩, if_pos z]
    · rw [if_neg (fun y => z y.1), if_neg z]
      exact h7 j (by omega)
  · obtain ⟨o0, o1, o3, o4, o6, o7⟩ := hO2
    refine ⟨o0, ?_, ?_, o4, fun j hj => ?_, fun j hj => ?_⟩
    · rw [q_s_ne (by omega), q_cpL_ne (by omega)]; exact o1
    · rw [q_s_ne (by omega), q_cpL_ne (by omega)]; exact o3
    · rw [q_s_ne (by omega), q_cpL_ne (by omega)]; exact o6 j hj
    · rw [q_s_ne (by omega), q_cpL_ne (by omega)]; exact o7 j hj
theorem q_J6_stringSize {p : Nat} (hp : p < 10) (h : post (some (aI 1)) S) : w_J6_stringSize_0f7a4 [aI (nI p)] S post := by
  rcases (show p = 0 ∨ p = 1 ∨ p = 2 ∨ p = 3 ∨ p = 4 ∨ p = 5 ∨ p = 6 ∨ p = 7 ∨ p = 8 ∨ p = 9 by omega) with rfl | rfl | rfl | rfl | rfl | rfl | rfl | rfl | rfl | rfl <;> exact e_walk (stops := []) 40 (And.intro (fun c => absurd c (by decide)) (fun _ => And.intro (fun c => absurd c (by decide)) (fun _ => And.intro (fun c => absurd c (by decide)) (fun _ => h))))
theorem q_J6_getChars {p i ln : Nat} (hp : p < 10) (hl : ln < i % 65536) (hi : i % 65536 ≤ 70) (h : post (some (aI (nI ln))) (sI S 11 i ln (nI (48 + p)))) : w_J6_getChars_ba4f3 [aI (nI p), aI (nI (ln + 1)), aR 11 i] S post := by
  have em : nI (ln + 1) + -1 = nI ln := by
    rw [← Int32.sub_eq_add_neg, nI_pred]
  have fin : ∀ x, x = nI (48 + p) → vp_in (nI ln) (e_ln 11 i) ∧ post (some (aI (nI ln))) (sI S 11 i (nI ln).toNatClampNeg (vp_nar .byte x)) := fun x hx => by
    rw [hx, q_by_nar2 (by omega), nI_clamp (by omega)]
    exact ⟨q_in (n := ln) (L := i % 65536) rfl hl (by omega), h⟩
  have key : ∀ p, p < 10 → ¬ nI p < 0 ∧ (-100 : Int32) < -nI p ∧ ¬ -nI p < -9 ∧ vp_in (- -nI p) 100 ∧ e_dg (- -nI p).toNatClampNeg = nI (48 + p) := by
    have k1 : ∀ p, p < 10 → ¬ nI p < 0 ∧ (-100 : Int32) < -nI p ∧ ¬ -nI p < -9 := by decide +kernel
    intro p hp
    rw [Int32.neg_neg, nI_clamp (by omega)]
    refine ⟨(k1 p hp).1, (k1 p hp).2.1, (k1 p hp).2.2, q_in (n := p) rfl (by omega) (by decide), ?_⟩
    unfold e_dg
    rw [show p % 10 = p by omega]
    rfl
  obtain ⟨k1, k2, k3, k4, k5⟩ := key p hp
  refine e_walk (stops := [16]) 20 ?_
  refine And.intro (fun _ => ?_) (fun c => absurd (Int32.not_lt.mp k1) c)
  refine e_walk (stops := [76]) 20 ?_
  refine And.intro (fun _ => ?_) (fun c => absurd rfl c)
  refine And.intro (fun _ => ?_) (fun c => absurd k2 c)
  show e_Run tb_J6_getChars_ba4f3 post e_no 76 [some (aI (-nI p)), some (aI (nI (ln + 1))), some (aR 11 i), none, none, some (aI (nI (ln + 1) + -1)), some (aI 0)] [aR 11 i] S 0 0
  rw [em]
  refine e_walk (stops := [84]) 20 ?_
  refine And.intro k4 ?_
  show e_Run tb_J6_getChars_ba4f3 post e_no 84 [some (aI (-nI p)), some (aI (nI (ln + 1))), some (aR 11 i), none, none, some (aI (nI ln)), some (aI 0)] [aI (e_dg (- -nI p).toNatClampNeg), aI (nI ln), aR 11 i] S 0 0
  rw [k5]
  obtain ⟨g1, g2⟩ := fin _ rfl
  refine e_walk (stops := []) 30 ?_
  exact And.intro g1 (And.intro (fun _ => And.intro (fun _ => g2) (fun c => absurd rfl c)) (fun c => absurd (Int32.not_lt.mp k3) c))
theorem q_J4_appendI {s o i io ln lo p : Nat} {f g : Nat → Int32} (hp : p < 10) (hso : s ≠ o) (hT : q_T1 S s i f ln) (hO : q_T1 S o io g lo) (hio : i ≠ io) (hl : ln < 60) (h : ∀ S2 i2, q_fx S S2 → i2 ≠ io → q_T1 S2 s i2 (upd f ln (nI (48 + p))) (ln + 1) → q_T1 S2 o io g lo → post (some (aR 10 s)) S2) : w_J4_append_bf812 [aR 10 s, aI (nI p)] S post := by
  refine e_walk (stops := [5]) 20 ?_
  refine And.intro (Nat.le_refl 1) (And.intro (Nat.le_refl 70) ?_)
  refine e_walk (stops := [4]) 20 ?_
  show e_Run tb_J5_append_c97b9 _ e_no 4 [some (aR 10 s), some (aI (nI p)), none, none] [aI (mI S 10 s 3)] S 1 70
  rw [hT.2.2.1]
  refine e_walk (stops := [10]) 20 ?_
  refine q_J6_stringSize hp ?_
  refine e_walk (stops := [11]) 1 ?_
  show e_Run tb_J5_append_c97b9 _ e_no 11 [some (aR 10 s), some (aI (nI p)), some (aI (nI ln)), none] [aI (nI ln + 1)] S 1 70
  rw [nI_1]
  refine e_walk (stops := [17]) 20 ?_
  refine And.intro (Nat.le_refl 1) (And.intro (Nat.le_refl 70) ?_)
  refine q_J5_ensure hso hT hO hio (by omega) (by omega) (fun S2 i2 fx hi2 hcap hT2 hO2 => ?_)
  have hT2' := hT2
  obtain ⟨h0, h1, h3, ⟨h4, h5⟩, h6, h7⟩ := hT2
  refine e_walk (stops := [21]) 20 ?_
  refine q_J5_isLatin1 h1 ?_
  refine e_walk (stops := [30]) 20 ?_
  refine And.intro (fun c => absurd c (by decide)) (fun _ => ?_)
  show e_Run tb_J5_append_c97b9 _ e_no 30 [some (aR 10 s), some (aI (nI p)), some (aI (nI ln)), some (aI (nI (ln + 1)))] [aO (mR S2 10 s 0), aI (nI (ln + 1)), aI (nI p)] S2 0 0
  rw [h0]
  refine e_walk (stops := [33]) 20 ?_
  refine q_J6_getChars hp (by omega) (by omega) ?_
  refine e_walk (stops := []) 20 ?_
  refine e_walk (stops := []) 20 ?_
  obtain ⟨a1, a2⟩ := q_T1_add (n := 48 + p) hso hT2' hO2 hi2 (by omega) (by omega)
  have sw : sI (sI S2 11 i2 ln (nI (48 + p))) 10 s 3 (nI (ln + 1)) = sI (sI S2 10 s 3 (nI (ln + 1))) 11 i2 ln (nI (48 + p)) := by
    have : e_u3 (e_u3 (mI S2) 11 i2 ln (nI (48 + p))) 10 s 3 (nI (ln + 1)) = e_u3 (e_u3 (mI S2) 10 s 3 (nI (ln + 1))) 11 i2 ln (nI (48 + p)) := by
      funext a c d
      unfold e_u3
      by_cases z1 : a = 10 ∧ c = s ∧ d = 3
      · rw [if_pos z1, if_neg (by omega), if_pos z1]
      · rw [if_neg z1]
        by_cases z2 : a = 11 ∧ c = i2 ∧ d = ln
        · rw [if_pos z2, if_pos z2]
        · rw [if_neg z2, if_neg z2, if_neg z1]
    exact congrArg (fun z => (z, S2.2)) this
  show post (some (aR 10 s)) (sI (sI S2 11 i2 ln (nI (48 + p))) 10 s 3 (nI (ln + 1)))
  rw [sw]
  exact h _ i2 ((fx.sI (Or.inl rfl)).sI (Or.inr rfl)) hi2 a1 a2
end SBs2
