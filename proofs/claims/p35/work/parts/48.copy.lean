/-! What walks come to: a band copied; days. Own work. -/
section BandCopy
variable {S S1 S2 : eM} {post : eQ} {v v2 : qV} {B b c np ni nl : Nat}
theorem q_cpy_ne {S : eM} {k0 i0 k i sp dp n k2 i2 : Nat} (h : ¬ (k2 = k ∧ i2 = i)) : mI (e_cpy S k0 i0 k i sp dp n) k2 i2 = mI S k2 i2 := by
  show (if k2 = k ∧ i2 = i then va_cpy (mI S k0 i0) (mI S k i) sp dp n else mI S k2 i2) = _
  rw [if_neg h]
theorem q_cpy_eq {S : eM} {k0 i0 k i n j : Nat} (h : j < n) : mI (e_cpy S k0 i0 k i 0 0 n) k i j = mI S k0 i0 j := by
  show (if k = k ∧ i = i then va_cpy (mI S k0 i0) (mI S k i) 0 0 n else mI S k i) j = _
  rw [if_pos ⟨rfl, rfl⟩]
  unfold va_cpy
  rw [if_pos ⟨Nat.zero_le _, by omega⟩, Nat.zero_add, Nat.sub_zero]
theorem q_fb.cpy (h : q_fb b S S1) {k0 i0 k i sp dp n : Nat} (hr : q_rgn b k i) : q_fb b S (e_cpy S1 k0 i0 k i sp dp n) :=
  ⟨fun k2 i2 hk => (q_cpy_ne (fun z => hk (by rw [z.1, z.2]; exact hr))).trans (h.1 k2 i2 hk), h.2⟩
/-- the pupils, then the instruments are copied -/
theorem q_cp_2 (hbc : b ≠ c) (hb5 : ∀ p, p < 10 → mI S 2 (10 * c + p) 5 = 0 ∨ mI S 2 (10 * c + p) 5 = 1) (hp : ∀ S2, q_fb b S S2 → (∀ p j, p < 10 → j < 7 → mI S2 2 (10 * b + p) j = mI S 2 (10 * c + p) j) → e_Run tb_X0_copyFrom post e_no 29 [some (aR 1 b), some (aR 1 c), some (aI 10)] [] S2 0 0) : ∀ d k, k + d = 10 → ∀ S1, q_fb b S S1 → (∀ p j, p < k → j < 7 → mI S1 2 (10 * b + p) j = mI S 2 (10 * c + p) j) → e_Run tb_X0_copyFrom post e_no 2 [some (aR 1 b), some (aR 1 c), some (aI (nI k))] [] S1 0 0 := by
  intro d
  induction d with
  | zero =>
    intro k hk S1 f g
    obtain rfl : k = 10 := by omega
    refine e_walk (stops := [29]) 20 ?_
    exact And.intro (fun _ => hp S1 f g) (fun z => absurd (by decide) z)
  | succ d ih =>
    intro k hk S1 f g
    refine e_walk (stops := [20]) 20 ?_
    refine And.intro (fun z => absurd z (nI_ge (a := k) (b := 10) (by omega) (by decide))) (fun _ => ?_)
    refine And.intro (q_in (n := k) (L := 10) rfl (by omega) (by decide)) ?_
    refine And.intro (q_in (n := k) (L := 10) rfl (by omega) (by decide)) ?_
    show e_Run tb_X0_copyFrom post e_no 20 [some (aR 1 b), some (aR 1 c), some (aI (nI k))] [aR 2 (10 * c + (nI k).toNatClampNeg), aR 2 (10 * b + (nI k).toNatClampNeg)] S1 0 0
    rw [nI_clamp (by omega)]
    have ec : mI S1 2 (10 * c + k) = mI S 2 (10 * c + k) := f.1 2 _ (by unfold q_rgn; omega)
    refine e_walk (stops := [23]) 20 ?_
    refine q_X2_copyFrom (by rw [ec]; exact hb5 k (by omega)) (by omega) (fun S3 f3 g3 => ?_)
    refine e_walk (stops := [2]) 20 ?_
    show e_Run tb_X0_copyFrom post e_no 2 [some (aR 1 b), some (aR 1 c), some (aI (nI k + 1))] [] S3 0 0
    rw [nI_1]
    refine ih (k + 1) (by omega) S3 (f.trans (q_fb.f1 f3 (q_rgn_p (by omega)))) (fun p j hp hj => ?_)
    by_cases hpk : p = k
    · subst hpk
      rw [g3 j hj, ec]
    · rw [f3.1 2 (10 * b + p) (by omega)]
      exact g p j (by omega) hj
theorem q_cp_3 (hbc : b ≠ c) (hp : ∀ S2, q_fb b S S2 → (∀ p j, p < 10 → j < 5 → mI S2 3 (10 * b + p) j = mI S 3 (10 * c + p) j) → (∀ p, p < 10 → mI S2 2 (10 * b + p) = mI S 2 (10 * b + p)) → mI S2 1 b = mI S 1 b → e_Run tb_X0_copyFrom post e_no 66 [some (aR 1 b), some (aR 1 c), some (aI 10)] [] S2 0 0) : ∀ d k, k + d = 10 → ∀ S1, q_fb b S S1 → (∀ p j, p < k → j < 5 → mI S1 3 (10 * b + p) j = mI S 3 (10 * c + p) j) → (∀ p, p < 10 → mI S1 2 (10 * b + p) = mI S 2 (10 * b + p)) → mI S1 1 b = mI S 1 b → e_Run tb_X0_copyFrom post e_no 39 [some (aR 1 b), some (aR 1 c), some (aI (nI k))] [] S1 0 0 := by
  intro d
  induction d with
  | zero =>
    intro k hk S1 f g g2 g1
    obtain rfl : k = 10 := by omega
    refine e_walk (stops := [66]) 20 ?_
    exact And.intro (fun _ => hp S1 f g g2 g1) (fun z => absurd (by decide) z)
  | succ d ih =>
    intro k hk S1 f g g2 g1
    refine e_walk (stops := [57]) 20 ?_
    refine And.intro (fun z => absurd z (nI_ge (a := k) (b := 10) (by omega) (by decide))) (fun _ => ?_)
    refine And.intro (q_in (n := k) (L := 10) rfl (by omega) (by decide)) ?_
    refine And.intro (q_in (n := k) (L := 10) rfl (by omega) (by decide)) ?_
    show e_Run tb_X0_copyFrom post e_no 57 [some (aR 1 b), some (aR 1 c), some (aI (nI k))] [aR 3 (10 * c + (nI k).toNatClampNeg), aR 3 (10 * b + (nI k).toNatClampNeg)] S1 0 0
    rw [nI_clamp (by omega)]
    have ec : mI S1 3 (10 * c + k) = mI S 3 (10 * c + k) := f.1 3 _ (by unfold q_rgn; omega)
    refine e_walk (stops := [60]) 20 ?_
    refine q_X1_copyFrom (by omega) (fun S3 f3 g3 => ?_)
    refine e_walk (stops := [39]) 20 ?_
    show e_Run tb_X0_copyFrom post e_no 39 [some (aR 1 b), some (aR 1 c), some (aI (nI k + 1))] [] S3 0 0
    rw [nI_1]
    refine ih (k + 1) (by omega) S3 (f.trans (q_fb.f1 f3 (q_rgn_i (by omega)))) (fun p j hp hj => ?_) (fun p hp => ?_) ?_
    · by_cases hpk : p = k
      · subst hpk
        rw [g3 j hj, ec]
      · rw [f3.1 3 (10 * b + p) (by omega)]
        exact g p j (by omega) hj
    · rw [f3.1 2 (10 * b + p) (by omega)]
      exact g2 p hp
    · rw [f3.1 1 b (by omega)]
      exact g1
def q_cpK (S : eM) (b c : Nat) (v4 : Int32) (n : Nat) (T : eM) : Prop := q_fb b S T ∧ (∀ p j, p < 10 → j < 7 → mI T 2 (10 * b + p) j = mI S 2 (10 * c + p) j) ∧ (∀ p j, p < 10 → j < 5 → mI T 3 (10 * b + p) j = mI S 3 (10 * c + p) j) ∧ (∀ k, k < 10 → mI T 6 b k = mI S 6 c k) ∧ (∀ k, k < 3 → mI T 7 b k = mI S 7 c k) ∧ (mI T 1 b 1 = mI S 1 c 1 ∧ mI T 1 b 3 = mI S 1 c 3 ∧ mI T 1 b 5 = mI S 1 c 5 ∧ mI T 1 b 7 = mI S 1 c 7 ∧ mI T 1 b 8 = v4) ∧ ∀ j, j < n → mI T 1 b (9 + j) = mI S 1 c (9 + j)
theorem q_cpK_step {v4 : Int32} {n : Nat} {T : eM} (hbc : b ≠ c) (hn : n < 8) (h : q_cpK S b c v4 n T) : q_cpK S b c v4 (n + 1) (sI T 1 b (9 + n) (mI T 1 c (9 + n))) := by
  obtain ⟨fk, gp, gi, l, s, ⟨k1, k3, k5, k7, k8⟩, kf⟩ := h
  have e : mI T 1 c = mI S 1 c := fk.1 1 c (by unfold q_rgn; omega)
  rw [e]
  refine ⟨fk.set q_rgn_b, fun p j hp hj => ?_, fun p j hp hj => ?_, fun k hk => ?_, fun k hk => ?_, ⟨?_, ?_, ?_, ?_, ?_⟩, fun j hj => ?_⟩
  · rw [q_s_ne (by omega)]; exact gp p j hp hj
  · rw [q_s_ne (by omega)]; exact gi p j hp hj
  · rw [q_s_ne (by omega)]; exact l k hk
  · rw [q_s_ne (by omega)]; exact s k hk
  · rw [q_s_ne (by omega)]; exact k1
  · rw [q_s_ne (by omega)]; exact k3
  · rw [q_s_ne (by omega)]; exact k5
  · rw [q_s_ne (by omega)]; exact k7
  · rw [q_s_ne (by omega)]; exact k8
  · by_cases hjn : j = n
    · subst hjn
      rw [q_s_self]
    · rw [q_s_ne (by omega)]; exact kf j (by omega)
theorem q_X0_copyFrom (hnp : np ≤ 10) (hni : ni ≤ 10) (hnl : nl ≤ 10) (hbc : b ≠ c) (hB : q_B S c v np ni nl) (hv4 : v 4 = 0 ∨ v 4 = 1) (h : ∀ S2, q_fb b S S2 → q_B S2 b v np ni nl → post none S2) : w_X0_copyFrom [aR 1 b, aR 1 c] S post := by
  have c0 : ((0 : Int32)).toNatClampNeg = 0 := by decide
  have c10 : ((10 : Int32)).toNatClampNeg = 10 := by decide
  have c3 : ((3 : Int32)).toNatClampNeg = 3 := by decide
  refine e_walk (stops := [2]) 20 ?_
  refine q_cp_2 hbc hB.2.2.2.2.2.2 (fun S1 f1 gp => ?_) 10 0 rfl S q_fb.rf (fun p j hp _ => absurd hp (Nat.not_lt_zero p))
  have ec1 : ∀ S', q_fb b S S' → mI S' 1 c = mI S 1 c := fun S' f => f.1 1 c (by unfold q_rgn; omega)
  refine e_walk (stops := [39]) 20 ?_
  show e_Run tb_X0_copyFrom post e_no 39 [some (aR 1 b), some (aR 1 c), some (aI 0)] [] (sI S1 1 b 1 (mI S1 1 c 1)) 0 0
  rw [ec1 S1 f1]
  have f2 : q_fb b S (sI S1 1 b 1 (mI S 1 c 1)) := f1.set q_rgn_b
  have a1 : mI (sI S1 1 b 1 (mI S 1 c 1)) 1 b 1 = mI S 1 c 1 := q_s_self
  have gp2 : ∀ p j, p < 10 → j < 7 → mI (sI S1 1 b 1 (mI S 1 c 1)) 2 (10 * b + p) j = mI S 2 (10 * c + p) j := fun p j hp hj => by rw [q_s_ne (by omega)]; exact gp p j hp hj
  generalize sI S1 1 b 1 (mI S 1 c 1) = T at *
  have eT3 : ∀ p, p < 10 → mI T 3 (10 * c + p) = mI S 3 (10 * c + p) := fun p hp => f2.1 3 _ (by unfold q_rgn; omega)
  refine q_cp_3 hbc (fun S3 f3 gi g2 g1 => ?_) 10 0 rfl T q_fb.rf (fun p j hp _ => absurd hp (Nat.not_lt_zero p)) (fun _ _ => rfl) rfl
  have f4 := f2.trans f3
  have gp3 : ∀ p j, p < 10 → j < 7 → mI S3 2 (10 * b + p) j = mI S 2 (10 * c + p) j := fun p j hp hj => by rw [g2 p hp]; exact gp2 p j hp hj
  have gi3 : ∀ p j, p < 10 → j < 5 → mI S3 3 (10 * b + p) j = mI S 3 (10 * c + p) j := fun p j hp hj => by rw [gi p j hp hj, eT3 p hp]
  have a1b : mI S3 1 b 1 = mI S 1 c 1 := by rw [g1]; exact a1
  clear gi g2 g1 a1 gp gp2 f1 f3
  refine e_walk (stops := [74]) 20 ?_
  show e_Run tb_X0_copyFrom post e_no 74 [some (aR 1 b), some (aR 1 c), some (aI 10)] [] (sI S3 1 b 3 (mI S3 1 c 3)) 0 0
  rw [ec1 S3 f4]
  have f5 : q_fb b S (sI S3 1 b 3 (mI S 1 c 3)) := f4.set q_rgn_b
  have gp4 : ∀ p j, p < 10 → j < 7 → mI (sI S3 1 b 3 (mI S 1 c 3)) 2 (10 * b + p) j = mI S 2 (10 * c + p) j := fun p j hp hj => by rw [q_s_ne (by omega)]; exact gp3 p j hp hj
  have gi4 : ∀ p j, p < 10 → j < 5 → mI (sI S3 1 b 3 (mI S 1 c 3)) 3 (10 * b + p) j = mI S 3 (10 * c + p) j := fun p j hp hj => by rw [q_s_ne (by omega)]; exact gi3 p j hp hj
  have a13 : mI (sI S3 1 b 3 (mI S 1 c 3)) 1 b 1 = mI S 1 c 1 ∧ mI (sI S3 1 b 3 (mI S 1 c 3)) 1 b 3 = mI S 1 c 3 := ⟨by rw [q_s_ne (by omega)]; exact a1b, q_s_self⟩
  generalize sI S3 1 b 3 (mI S 1 c 3) = T4 at *
  clear gp3 gi3 a1b f4
  refine e_walk (stops := [89]) 20 ?_
  refine And.intro ⟨by decide, by decide, by decide, by rw [c0, c10]; exact (by decide : 0 + 10 ≤ 10), by rw [c0, c10]; exact (by decide : 0 + 10 ≤ 10), fun _ _ => rfl⟩ ?_
  show e_Run tb_X0_copyFrom post e_no 89 [some (aR 1 b), some (aR 1 c), some (aI 10)] [] (e_cpy T4 6 c 6 b ((0 : Int32)).toNatClampNeg ((0 : Int32)).toNatClampNeg ((10 : Int32)).toNatClampNeg) 0 0
  rw [c0, c10]
  have f6 : q_fb b S (e_cpy T4 6 c 6 b 0 0 10) := f5.cpy q_rgn_l
  have gp5 : ∀ p j, p < 10 → j < 7 → mI (e_cpy T4 6 c 6 b 0 0 10) 2 (10 * b + p) j = mI S 2 (10 * c + p) j := fun p j hp hj => by rw [q_cpy_ne (by omega)]; exact gp4 p j hp hj
  have gi5 : ∀ p j, p < 10 → j < 5 → mI (e_cpy T4 6 c 6 b 0 0 10) 3 (10 * b + p) j = mI S 3 (10 * c + p) j := fun p j hp hj => by rw [q_cpy_ne (by omega)]; exact gi4 p j hp hj
  have a5 : mI (e_cpy T4 6 c 6 b 0 0 10) 1 b = mI T4 1 b := q_cpy_ne (by omega)
  have l5 : ∀ k, k < 10 → mI (e_cpy T4 6 c 6 b 0 0 10) 6 b k = mI S 6 c k := fun k hk => by rw [q_cpy_eq hk, f5.1 6 c (by unfold q_rgn; omega)]
  rw [← a5] at a13
  generalize e_cpy T4 6 c 6 b 0 0 10 = T5 at *
  clear gp4 gi4 f5 a5
  refine e_walk (stops := [97]) 20 ?_
  show e_Run tb_X0_copyFrom post e_no 97 [some (aR 1 b), some (aR 1 c), some (aI 10)] [] (sI T5 1 b 5 (mI T5 1 c 5)) 0 0
  rw [ec1 T5 f6]
  have f7 : q_fb b S (sI T5 1 b 5 (mI S 1 c 5)) := f6.set q_rgn_b
  refine e_walk (stops := [114]) 20 ?_
  refine And.intro ⟨rfl, rfl⟩ ?_
  refine And.intro ⟨by decide, by decide, by decide, by rw [c0, c3]; exact (by decide : 0 + 3 ≤ 3), by rw [c0, c3]; exact (by decide : 0 + 3 ≤ 3), fun _ _ => rfl⟩ ?_
  show e_Run tb_X0_copyFrom post e_no 114 [some (aR 1 b), some (aR 1 c), some (aI 10)] [] (e_cpy (sI T5 1 b 5 (mI S 1 c 5)) 7 c 7 b ((0 : Int32)).toNatClampNeg ((0 : Int32)).toNatClampNeg ((3 : Int32)).toNatClampNeg) 0 0
  rw [c0, c3]
  have f8 : q_fb b S (e_cpy (sI T5 1 b 5 (mI S 1 c 5)) 7 c 7 b 0 0 3) := f7.cpy q_rgn_s
  have gp6 : ∀ p j, p < 10 → j < 7 → mI (e_cpy (sI T5 1 b 5 (mI S 1 c 5)) 7 c 7 b 0 0 3) 2 (10 * b + p) j = mI S 2 (10 * c + p) j := fun p j hp hj => by rw [q_cpy_ne (by omega), q_s_ne (by omega)]; exact gp5 p j hp hj
  have gi6 : ∀ p j, p < 10 → j < 5 → mI (e_cpy (sI T5 1 b 5 (mI S 1 c 5)) 7 c 7 b 0 0 3) 3 (10 * b + p) j = mI S 3 (10 * c + p) j := fun p j hp hj => by rw [q_cpy_ne (by omega), q_s_ne (by omega)]; exact gi5 p j hp hj
  have l6 : ∀ k, k < 10 → mI (e_cpy (sI T5 1 b 5 (mI S 1 c 5)) 7 c 7 b 0 0 3) 6 b k = mI S 6 c k := fun k hk => by rw [q_cpy_ne (by omega), q_s_ne (by omega)]; exact l5 k hk
  have s6 : ∀ k, k < 3 → mI (e_cpy (sI T5 1 b 5 (mI S 1 c 5)) 7 c 7 b 0 0 3) 7 b k = mI S 7 c k := fun k hk => by rw [q_cpy_eq hk, f7.1 7 c (by unfold q_rgn; omega)]
  have a6 : mI (e_cpy (sI T5 1 b 5 (mI S 1 c 5)) 7 c 7 b 0 0 3) 1 b 1 = mI S 1 c 1 ∧ mI (e_cpy (sI T5 1 b 5 (mI S 1 c 5)) 7 c 7 b 0 0 3) 1 b 3 = mI S 1 c 3 ∧ mI (e_cpy (sI T5 1 b 5 (mI S 1 c 5)) 7 c 7 b 0 0 3) 1 b 5 = mI S 1 c 5 := by
    refine ⟨?_, ?_, ?_⟩
    · rw [q_cpy_ne (by omega), q_s_ne (by omega)]; exact a13.1
    · rw [q_cpy_ne (by omega), q_s_ne (by omega)]; exact a13.2
    · rw [q_cpy_ne (by omega), q_s_self]
  generalize e_cpy (sI T5 1 b 5 (mI S 1 c 5)) 7 c 7 b 0 0 3 = T6 at *
  clear gp5 gi5 f6 f7 l5 a13
  have o : ∀ (S : eM) (j : Nat) (x : Int32), mI (sI S 1 b j x) 1 c = mI S 1 c := fun S j x => e_u3_ne (fun z => hbc (congrArg Prod.snd z).symm)
  have e6 := ec1 T6 f8
  obtain ⟨⟨h1, h2, h3, h4, h5⟩, h6, h7, h8, h9, h10, h11⟩ := hB
  refine e_walk (stops := [122]) 20 ?_
  show e_Run tb_X0_copyFrom post e_no 122 [some (aR 1 b), some (aR 1 c), some (aI 10)] [] (sI T6 1 b 7 (mI T6 1 c 7)) 0 0
  rw [e6]
  refine e_walk (stops := [127]) 20 ?_
  show e_Run tb_X0_copyFrom post e_no 127 [some (aR 1 b), some (aR 1 c), some (aI 10)] [aI (mI (sI T6 1 b 7 (mI S 1 c 7)) 1 c 8), aR 1 b] (sI T6 1 b 7 (mI S 1 c 7)) 0 0
  rw [o, e6, h5]
  refine e_walk (stops := [130]) 20 ?_
  refine And.intro (by rcases hv4 with z | z <;> rw [z] <;> exact ⟨rfl, rfl⟩) ?_
  have f9 : q_fb b S (sI (sI T6 1 b 7 (mI S 1 c 7)) 1 b 8 (v 4)) := (f8.set q_rgn_b).set q_rgn_b
  have K0 : q_cpK S b c (v 4) 0 (sI (sI T6 1 b 7 (mI S 1 c 7)) 1 b 8 (v 4)) := by
    refine ⟨f9, fun p j hp hj => ?_, fun p j hp hj => ?_, fun k hk => ?_, fun k hk => ?_, ⟨?_, ?_, ?_, ?_, ?_⟩, fun j hj => absurd hj (Nat.not_lt_zero j)⟩
    · rw [q_s_ne (by omega), q_s_ne (by omega)]; exact gp6 p j hp hj
    · rw [q_s_ne (by omega), q_s_ne (by omega)]; exact gi6 p j hp hj
    · rw [q_s_ne (by omega), q_s_ne (by omega)]; exact l6 k hk
    · rw [q_s_ne (by omega), q_s_ne (by omega)]; exact s6 k hk
    · rw [q_s_ne (by omega), q_s_ne (by omega)]; exact a6.1
    · rw [q_s_ne (by omega), q_s_ne (by omega)]; exact a6.2.1
    · rw [q_s_ne (by omega), q_s_ne (by omega)]; exact a6.2.2
    · rw [q_s_ne (by omega), q_s_self]
    · rw [q_s_self]
  generalize sI (sI T6 1 b 7 (mI S 1 c 7)) 1 b 8 (v 4) = T7 at *
  refine e_walk (stops := [138]) 20 ?_
  show e_Run tb_X0_copyFrom post e_no 138 [some (aR 1 b), some (aR 1 c), some (aI 10)] [] (sI T7 1 b (9 + 0) (mI T7 1 c (9 + 0))) 0 0
  have K1 := q_cpK_step hbc (n := 0) (by decide) K0
  generalize sI T7 1 b (9 + 0) (mI T7 1 c (9 + 0)) = T8 at *
  refine e_walk (stops := [146]) 20 ?_
  show e_Run tb_X0_copyFrom post e_no 146 [some (aR 1 b), some (aR 1 c), some (aI 10)] [] (sI T8 1 b (9 + 1) (mI T8 1 c (9 + 1))) 0 0
  have K2 := q_cpK_step hbc (n := 1) (by decide) K1
  generalize sI T8 1 b (9 + 1) (mI T8 1 c (9 + 1)) = T9 at *
  refine e_walk (stops := [154]) 20 ?_
  show e_Run tb_X0_copyFrom post e_no 154 [some (aR 1 b), some (aR 1 c), some (aI 10)] [] (sI T9 1 b (9 + 2) (mI T9 1 c (9 + 2))) 0 0
  have K3 := q_cpK_step hbc (n := 2) (by decide) K2
  generalize sI T9 1 b (9 + 2) (mI T9 1 c (9 + 2)) = T10 at *
  refine e_walk (stops := [162]) 20 ?_
  show e_Run tb_X0_copyFrom post e_no 162 [some (aR 1 b), some (aR 1 c), some (aI 10)] [] (sI T10 1 b (9 + 3) (mI T10 1 c (9 + 3))) 0 0
  have K4 := q_cpK_step hbc (n := 3) (by decide) K3
  generalize sI T10 1 b (9 + 3) (mI T10 1 c (9 + 3)) = T11 at *
  refine e_walk (stops := [170]) 20 ?_
  show e_Run tb_X0_copyFrom post e_no 170 [some (aR 1 b), some (aR 1 c), some (aI 10)] [] (sI T11 1 b (9 + 4) (mI T11 1 c (9 + 4))) 0 0
  have K5 := q_cpK_step hbc (n := 4) (by decide) K4
  generalize sI T11 1 b (9 + 4) (mI T11 1 c (9 + 4)) = T12 at *
  refine e_walk (stops := [178]) 20 ?_
  show e_Run tb_X0_copyFrom post e_no 178 [some (aR 1 b), some (aR 1 c), some (aI 10)] [] (sI T12 1 b (9 + 5) (mI T12 1 c (9 + 5))) 0 0
  have K6 := q_cpK_step hbc (n := 5) (by decide) K5
  generalize sI T12 1 b (9 + 5) (mI T12 1 c (9 + 5)) = T13 at *
  refine e_walk (stops := [186]) 20 ?_
  show e_Run tb_X0_copyFrom post e_no 186 [some (aR 1 b), some (aR 1 c), some (aI 10)] [] (sI T13 1 b (9 + 6) (mI T13 1 c (9 + 6))) 0 0
  have K7 := q_cpK_step hbc (n := 6) (by decide) K6
  generalize sI T13 1 b (9 + 6) (mI T13 1 c (9 + 6)) = T14 at *
  refine e_walk (stops := []) 20 ?_
  show post none (sI T14 1 b (9 + 7) (mI T14 1 c (9 + 7)))
  have K8 := q_cpK_step hbc (n := 7) (by decide) K7
  generalize sI T14 1 b (9 + 7) (mI T14 1 c (9 + 7)) = T15 at *
  obtain ⟨fk, gp, gi, l, s, ⟨k1, k3, k5, k7, k8⟩, kf⟩ := K8
  refine h _ fk ⟨⟨k1.trans h1, k3.trans h2, k5.trans h3, k7.trans h4, k8⟩, fun j hj => (kf j hj).trans (h6 j hj), fun j hj => (s j hj).trans (h7 j hj), fun p hp => ?_, fun i hp => ?_, fun k hk => (l k (by omega)).trans (h10 k hk), fun p hp => by rw [gp p 5 hp (by decide)]; exact h11 p hp⟩
  · unfold q_P
    rw [gp p 0 (by omega) (by decide), gp p 1 (by omega) (by decide), gp p 2 (by omega) (by decide), gp p 3 (by omega) (by decide), gp p 4 (by omega) (by decide), gp p 5 (by omega) (by decide), gp p 6 (by omega) (by decide)]
    exact h8 p hp
  · unfold q_I
    rw [gi i 0 (by omega) (by decide), gi i 1 (by omega) (by decide), gi i 2 (by omega) (by decide), gi i 3 (by omega) (by decide), gi i 4 (by omega) (by decide)]
    exact h9 i hp
/-- a day more -/
theorem q_ps_next {d : Nat} (hi : q_inv B v np ni nl) (hd : d < 30) : ∀ j, q_ps (q_ps v (nI d) np) 1 np j = q_ps v (nI (d + 1)) np j := by
  intro j
  have hnp := hi.1.1
  by_cases h3 : j = 3
  · subst h3
    rw [(q_ps_34 _ 1 np).1, (q_ps_34 v _ np).1, (q_ps_34 v _ np).1, Int32.add_assoc, nI_1]
  by_cases h4 : j = 4
  · subst h4
    rw [(q_ps_34 _ 1 np).2, (q_ps_34 v _ np).2]
  by_cases hp : ∃ p w, p < np ∧ (w = 1 ∨ w = 5) ∧ j = 16 + 7 * p + w
  · obtain ⟨p, w, pp, hw, rfl⟩ := hp
    obtain ⟨a, b, c, h, ⟨e1, e2, e3, e4⟩, f, g1, g2⟩ := hi.2.1 p pp
    obtain ⟨x1, x2⟩ := q_ps_of (q_ps v (nI d) np) 1 np p pp
    obtain ⟨y1, y2⟩ := q_ps_of v (nI (d + 1)) np p pp
    obtain ⟨z1, z2⟩ := q_ps_of v (nI d) np p pp
    rcases hw with rfl | rfl
    · have u0 : q_of (q_ps v (nI d) np) p 0 = q_of v p 0 := q_ps_at v (nI d) np _ (Or.inr (Or.inr (Or.inr (Or.inr (Or.inr ⟨p, 0, by decide, by decide, by decide, rfl⟩)))))
      rw [x1, y1, u0, show q_of (q_ps v (nI d) np) p 1 = _ from z1, e1, e2, q_breath f.2.1 f.2.2.1 (by omega), q_breath f.2.1 f.2.2.1 (by omega), show (1 : Int32) = nI 1 from rfl, q_breath f.2.1 (by omega) (by omega)]
      congr 1
      omega
    · rw [x2, y2]
  · have o : ∀ (u : qV) (d : Int32), q_ps u d np j = u j := fun u d => q_ps_at u d np j (by
      by_cases q : j < 16
      · omega
      · by_cases q2 : 16 + 7 * np ≤ j
        · omega
        · refine Or.inr (Or.inr (Or.inr (Or.inr (Or.inr ⟨(j - 16) / 7, (j - 16) % 7, by omega, fun z => hp ⟨(j - 16) / 7, 1, by omega, Or.inl rfl, by omega⟩, fun z => hp ⟨(j - 16) / 7, 5, by omega, Or.inr rfl, by omega⟩, by omega⟩)))))
    rw [o, o, o]
end BandCopy
