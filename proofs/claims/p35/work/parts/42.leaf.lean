/-! What walks come to: pupils, instruments and bands of the system. Own work. -/
section Leaf
variable {S S1 S2 : eM} {post : eQ}
theorem q_s_ne {S : eM} {k i j k2 i2 j2 : Nat} {x : Int32} (h : ¬ (k2 = k ∧ i2 = i ∧ j2 = j)) : mI (sI S k i j x) k2 i2 j2 = mI S k2 i2 j2 := by
  show (if k2 = k ∧ i2 = i ∧ j2 = j then x else mI S k2 i2 j2) = _
  rw [if_neg h]
theorem q_s_eq {S : eM} {k i j k2 i2 j2 : Nat} {x : Int32} (h : k2 = k ∧ i2 = i ∧ j2 = j) : mI (sI S k i j x) k2 i2 j2 = x := by
  show (if k2 = k ∧ i2 = i ∧ j2 = j then x else mI S k2 i2 j2) = _
  rw [if_pos h]
theorem q_s_self {S : eM} {k i j : Nat} {x : Int32} : mI (sI S k i j x) k i j = x := q_s_eq ⟨rfl, rfl, rfl⟩
theorem q_m1 {x : Int32} : x - 1 = -1 ↔ x = 0 := by
  constructor
  · intro h
    have := congrArg (· + 1) h
    rw [Int32.sub_add_cancel] at this
    exact this
  · intro h
    rw [h]
    decide
def q_mn2 (a b : Int32) : Int32 := if b < a then b else a
/-- one thing's cells alone may have changed -/
def q_f1 (k0 i0 : Nat) (S S2 : eM) : Prop := (∀ k i, ¬ (k = k0 ∧ i = i0) → mI S2 k i = mI S k i) ∧ mR S2 = mR S ∧ mL S2 = mL S
theorem q_f1.rf {k0 i0 : Nat} {S : eM} : q_f1 k0 i0 S S := ⟨fun _ _ _ => rfl, rfl, rfl⟩
theorem q_f1.set {k0 i0 : Nat} {S S1 : eM} (h : q_f1 k0 i0 S S1) {j : Nat} {x : Int32} : q_f1 k0 i0 S (sI S1 k0 i0 j x) :=
  ⟨fun a b hab => (e_u3_ne (fun z => hab ⟨congrArg Prod.fst z, congrArg Prod.snd z⟩)).trans (h.1 a b hab), h.2⟩
theorem q_X2_copyFrom {a c : Nat} (hb : mI S 2 c 5 = 0 ∨ mI S 2 c 5 = 1) (hac : a ≠ c) (h : ∀ S2, q_f1 2 a S S2 → (∀ j, j < 7 → mI S2 2 a j = mI S 2 c j) → post none S2) : w_X2_copyFrom [aR 2 a, aR 2 c] S post := by
  have o : ∀ (S : eM) (j : Nat) (x : Int32), mI (sI S 2 a j x) 2 c = mI S 2 c := fun S j x => e_u3_ne (fun z => hac (congrArg Prod.snd z).symm)
  refine e_walk (stops := [48]) 40 ?_
  refine And.intro ?_ ?_
  · show narrow .boolean (.int (mI (sI (sI (sI (sI (sI S 2 a 0 _) 2 a 1 _) 2 a 2 _) 2 a 3 _) 2 a 4 _) 2 c 5)) = _ ∧ _
    rw [o, o, o, o, o]
    rcases hb with z | z <;> rw [z] <;> exact ⟨rfl, rfl⟩
  · refine e_walk (stops := []) 40 ?_
    refine h _ q_f1.rf.set.set.set.set.set.set.set (fun j hj => ?_)
    rcases (show j = 0 ∨ j = 1 ∨ j = 2 ∨ j = 3 ∨ j = 4 ∨ j = 5 ∨ j = 6 by omega) with rfl | rfl | rfl | rfl | rfl | rfl | rfl
    · rw [q_s_ne (by omega), q_s_ne (by omega), q_s_ne (by omega), q_s_ne (by omega), q_s_ne (by omega), q_s_ne (by omega), q_s_self]
    · rw [q_s_ne (by omega), q_s_ne (by omega), q_s_ne (by omega), q_s_ne (by omega), q_s_ne (by omega), q_s_self, o]
    · rw [q_s_ne (by omega), q_s_ne (by omega), q_s_ne (by omega), q_s_ne (by omega), q_s_self, o, o]
    · rw [q_s_ne (by omega), q_s_ne (by omega), q_s_ne (by omega), q_s_self, o, o, o]
    · rw [q_s_ne (by omega), q_s_ne (by omega), q_s_self, o, o, o, o]
    · rw [q_s_ne (by omega), q_s_self, o, o, o, o, o]
    · rw [q_s_self, o, o, o, o, o, o]
theorem q_X1_copyFrom {a c : Nat} (hac : a ≠ c) (h : ∀ S2, q_f1 3 a S S2 → (∀ j, j < 5 → mI S2 3 a j = mI S 3 c j) → post none S2) : w_X1_copyFrom [aR 3 a, aR 3 c] S post := by
  have o : ∀ (S : eM) (j : Nat) (x : Int32), mI (sI S 3 a j x) 3 c = mI S 3 c := fun S j x => e_u3_ne (fun z => hac (congrArg Prod.snd z).symm)
  refine e_walk (stops := []) 40 ?_
  refine h _ q_f1.rf.set.set.set.set.set (fun j hj => ?_)
  rcases (show j = 0 ∨ j = 1 ∨ j = 2 ∨ j = 3 ∨ j = 4 by omega) with rfl | rfl | rfl | rfl | rfl
  · rw [q_s_ne (by omega), q_s_ne (by omega), q_s_ne (by omega), q_s_ne (by omega), q_s_self]
  · rw [q_s_ne (by omega), q_s_ne (by omega), q_s_ne (by omega), q_s_self, o]
  · rw [q_s_ne (by omega), q_s_ne (by omega), q_s_self, o, o]
  · rw [q_s_ne (by omega), q_s_self, o, o, o]
  · rw [q_s_self, o, o, o, o]
theorem q_X2_come {a : Nat} {x : Int32} (h : post none (sI (sI (sI (sI (sI (sI (sI S 2 a 0 x) 2 a 1 x) 2 a 2 1) 2 a 3 0) 2 a 4 (-1)) 2 a 5 0) 2 a 6 0)) : w_X2_come [aR 2 a, aI x] S post := by
  refine e_walk (stops := []) 40 ?_
  exact And.intro ⟨rfl, rfl⟩ h
theorem q_X1_come {a : Nat} {x : Int32} (h : post none (sI (sI (sI (sI (sI S 3 a 0 x) 3 a 1 0) 3 a 2 (-1)) 3 a 3 0) 3 a 4 0)) : w_X1_come [aR 3 a, aI x] S post := e_walk (stops := []) 40 h
theorem q_X1_isLent {a : Nat} (h : post (some (aI (cond (decide (mI S 3 a 2 = -1)) 0 1))) S) : w_X1_isLent [aR 3 a] S post := by
  refine e_walk (stops := []) 20 ?_
  by_cases z : mI S 3 a 2 = -1
  · rw [decide_eq_true z] at h
    exact And.intro (fun _ => h) (fun c => absurd z c)
  · rw [decide_eq_false z] at h
    exact And.intro (fun c => absurd c z) (fun _ => h)
theorem q_X1_isPlayable {a : Nat} (h : post (some (aI (cond (decide (mI S 3 a 1 < 5)) 1 0))) S) : w_X1_isPlayable [aR 3 a] S post := by
  refine e_walk (stops := []) 20 ?_
  by_cases z : mI S 3 a 1 < 5
  · rw [decide_eq_true z] at h
    exact And.intro (fun c => absurd z (Int32.not_lt.mpr c)) (fun _ => h)
  · rw [decide_eq_false z] at h
    exact And.intro (fun _ => h) (fun c => absurd (Int32.not_lt.mp z) c)
theorem q_X1_dentsSinceLent {a : Nat} (h : post (some (aI (mI S 3 a 1 - mI S 3 a 3))) S) : w_X1_dentsSinceLent [aR 3 a] S post := e_walk (stops := []) 20 h
theorem q_X1_priceOfRepair {a : Nat} (h : post (some (aI (15 * mI S 3 a 1))) S) : w_X1_priceOfRepair [aR 3 a] S post := e_walk (stops := []) 20 h
theorem q_X2_learn {a : Nat} {x y : Int32} (h : post none (sI (sI S 2 a 2 (mI S 2 a 2 + x)) 2 a 1 (mI S 2 a 1 - y))) : w_X2_learn [aR 2 a, aI x, aI y] S post := by
  refine e_walk (stops := []) 20 ?_
  show post none (sI (sI S 2 a 2 (mI S 2 a 2 + x)) 2 a 1 (mI (sI S 2 a 2 (mI S 2 a 2 + x)) 2 a 1 - y))
  rw [q_s_ne (by omega)]
  exact h
theorem q_X1_addDents {a : Nat} {x : Int32} (h : post none (sI S 3 a 1 (q_mn2 9 (mI S 3 a 1 + x)))) : w_X1_addDents [aR 3 a, aI x] S post := e_walk (stops := []) 20 h
theorem q_X1_playMarch {a : Nat} (h1 : (mI S 3 a 4 + 1) - (mI S 3 a 4 + 1) / 3 * 3 = 0 → post none (sI (sI S 3 a 4 (mI S 3 a 4 + 1)) 3 a 1 (q_mn2 9 (mI S 3 a 1 + 1)))) (h0 : ¬ (mI S 3 a 4 + 1) - (mI S 3 a 4 + 1) / 3 * 3 = 0 → post none (sI S 3 a 4 (mI S 3 a 4 + 1))) : w_X1_playMarch [aR 3 a] S post := by
  refine e_walk (stops := [14]) 20 ?_
  show e_Run tb_X1_playMarch post e_no 14 [some (aR 3 a)] [aI (mI (sI S 3 a 4 (mI S 3 a 4 + 1)) 3 a 4)] (sI S 3 a 4 (mI S 3 a 4 + 1)) 0 0
  rw [q_s_self]
  refine e_walk (stops := [24]) 20 ?_
  refine And.intro (by decide) ?_
  refine And.intro (fun c => ?_) (fun c => ?_)
  · refine q_X1_addDents ?_
    rw [q_s_ne (by omega)]
    exact e_walk (stops := []) 20 (h1 c)
  · exact e_walk (stops := []) 20 (h0 c)
/-- a pupil's and an instrument's cells are what the row says -/
def q_P (S : eM) (a : Nat) (v : qV) (p : Nat) : Prop := mI S 2 a 0 = q_of v p 0 ∧ mI S 2 a 1 = q_of v p 1 ∧ mI S 2 a 2 = q_of v p 2 ∧ mI S 2 a 3 = q_of v p 3 ∧ mI S 2 a 4 = q_of v p 4 - 1 ∧ mI S 2 a 5 = q_of v p 5 ∧ mI S 2 a 6 = q_of v p 6
def q_I (S : eM) (a : Nat) (v : qV) (i : Nat) : Prop := mI S 3 a 0 = q_its v i 0 ∧ mI S 3 a 1 = q_its v i 1 ∧ mI S 3 a 2 = q_its v i 2 - 1 ∧ mI S 3 a 4 = q_its v i 3 ∧ (q_its v i 2 ≠ 0 → mI S 3 a 1 - mI S 3 a 3 = q_its v i 4)
variable {v : qV} {a c p i : Nat}
theorem q_X2_number {w : Nat} (hP : q_P S a v p) (hb : q_of v p 5 = 0 ∨ q_of v p 5 = 1) (hw : w < 7) (h : post (some (aI (q_pTold v p w))) S) : w_X2_number [aR 2 a, aI (nI w)] S post := by
  obtain ⟨h0, h1, h2, h3, h4, h5, h6⟩ := hP
  refine e_walk (stops := []) 20 ?_
  rcases (show w = 0 ∨ w = 1 ∨ w = 2 ∨ w = 3 ∨ w = 4 ∨ w = 5 ∨ w = 6 by omega) with rfl | rfl | rfl | rfl | rfl | rfl | rfl
  · exact And.intro (fun _ => by rw [show q_pTold v p 0 = q_of v p 0 from rfl, ← h0] at h; exact h) (fun c => absurd rfl c)
  · exact And.intro (fun c => absurd c (by decide)) (fun _ => And.intro (fun _ => by rw [show q_pTold v p 1 = q_of v p 1 from rfl, ← h1] at h; exact h) (fun c => absurd rfl c))
  · exact And.intro (fun c => absurd c (by decide)) (fun _ => And.intro (fun c => absurd c (by decide)) (fun _ => And.intro (fun _ => by rw [show q_pTold v p 2 = q_of v p 2 from rfl, ← h2] at h; exact h) (fun c => absurd rfl c)))
  · exact And.intro (fun c => absurd c (by decide)) (fun _ => And.intro (fun c => absurd c (by decide)) (fun _ => And.intro (fun c => absurd c (by decide)) (fun _ => And.intro (fun _ => by rw [show q_pTold v p 3 = q_of v p 3 from rfl, ← h3] at h; exact h) (fun c => absurd rfl c))))
  · exact And.intro (fun c => absurd c (by decide)) (fun _ => And.intro (fun c => absurd c (by decide)) (fun _ => And.intro (fun c => absurd c (by decide)) (fun _ => And.intro (fun c => absurd c (by decide)) (fun _ => And.intro (fun _ => by rw [show q_pTold v p 4 = q_of v p 4 - 1 from rfl, ← h4] at h; exact h) (fun c => absurd rfl c)))))
  · refine And.intro (fun c => absurd c (by decide)) (fun _ => And.intro (fun c => absurd c (by decide)) (fun _ => And.intro (fun c => absurd c (by decide)) (fun _ => And.intro (fun c => absurd c (by decide)) (fun _ => And.intro (fun c => absurd c (by decide)) (fun _ => And.intro (fun _ => ?_) (fun c => absurd rfl c))))))
    rw [show q_pTold v p 5 = q_of v p 5 from rfl] at h
    rcases hb with z | z
    · rw [z] at h h5
      exact And.intro (fun _ => h) (fun c => absurd h5 c)
    · rw [z] at h h5
      exact And.intro (fun c => absurd (h5.symm.trans c) (by decide)) (fun _ => h)
  · exact And.intro (fun c => absurd c (by decide)) (fun _ => And.intro (fun c => absurd c (by decide)) (fun _ => And.intro (fun c => absurd c (by decide)) (fun _ => And.intro (fun c => absurd c (by decide)) (fun _ => And.intro (fun c => absurd c (by decide)) (fun _ => And.intro (fun c => absurd c (by decide)) (fun _ => by rw [show q_pTold v p 6 = q_of v p 6 from rfl, ← h6] at h; exact h))))))
theorem q_X1_number {w : Nat} (hI : q_I S a v i) (hw : w < 6) (h : post (some (aI (q_iTold v i w))) S) : w_X1_number [aR 3 a, aI (nI w)] S post := by
  obtain ⟨h0, h1, h2, h3, h4⟩ := hI
  refine e_walk (stops := [60, 76]) 20 ?_
  rcases (show w = 0 ∨ w = 1 ∨ w = 2 ∨ w = 3 ∨ w = 4 ∨ w = 5 by omega) with rfl | rfl | rfl | rfl | rfl | rfl
  · exact And.intro (fun _ => by rw [show q_iTold v i 0 = q_its v i 0 from rfl, ← h0] at h; exact h) (fun c => absurd rfl c)
  · exact And.intro (fun c => absurd c (by decide)) (fun _ => And.intro (fun _ => by rw [show q_iTold v i 1 = q_its v i 1 from rfl, ← h1] at h; exact h) (fun c => absurd rfl c))
  · exact And.intro (fun c => absurd c (by decide)) (fun _ => And.intro (fun c => absurd c (by decide)) (fun _ => And.intro (fun _ => by rw [show q_iTold v i 2 = q_its v i 2 - 1 from rfl, ← h2] at h; exact h) (fun c => absurd rfl c)))
  · exact And.intro (fun c => absurd c (by decide)) (fun _ => And.intro (fun c => absurd c (by decide)) (fun _ => And.intro (fun c => absurd c (by decide)) (fun _ => And.intro (fun _ => by rw [show q_iTold v i 3 = q_its v i 3 from rfl, ← h3] at h; exact h) (fun c => absurd rfl c))))
  · refine And.intro (fun c => absurd c (by decide)) (fun _ => And.intro (fun c => absurd c (by decide)) (fun _ => And.intro (fun c => absurd c (by decide)) (fun _ => And.intro (fun c => absurd c (by decide)) (fun _ => And.intro (fun _ => ?_) (fun c => absurd rfl c)))))
    rw [show q_iTold v i 4 = (if q_its v i 2 = 0 then -1 else q_its v i 4) from rfl] at h
    refine q_X1_isLent ?_
    by_cases z : q_its v i 2 = 0
    · rw [h2, decide_eq_true (q_m1.mpr z)]
      rw [if_pos z] at h
      refine e_walk (stops := []) 20 ?_
      exact And.intro (fun _ => h) (fun c => absurd rfl c)
    · rw [h2, decide_eq_false (fun y => z (q_m1.mp y))]
      rw [if_neg z, ← h4 z] at h
      refine e_walk (stops := [67]) 20 ?_
      refine And.intro (fun c => absurd c (by decide)) (fun _ => ?_)
      exact q_X1_dentsSinceLent (e_walk (stops := []) 20 h)
  · refine And.intro (fun c => absurd c (by decide)) (fun _ => And.intro (fun c => absurd c (by decide)) (fun _ => And.intro (fun c => absurd c (by decide)) (fun _ => And.intro (fun c => absurd c (by decide)) (fun _ => And.intro (fun c => absurd c (by decide)) (fun _ => ?_)))))
    rw [show q_iTold v i 5 = cond (decide (q_its v i 1 < 5)) 1 0 from rfl] at h
    refine q_X1_isPlayable ?_
    rw [h1]
    by_cases z : q_its v i 1 < 5
    · rw [decide_eq_true z] at h ⊢
      refine e_walk (stops := []) 20 ?_
      exact And.intro (fun c => absurd c (by decide)) (fun _ => h)
    · rw [decide_eq_false z] at h ⊢
      refine e_walk (stops := []) 20 ?_
      exact And.intro (fun _ => h) (fun c => absurd rfl c)
end Leaf
