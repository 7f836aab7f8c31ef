/-! What walks come to: a band made, 2. Own work. -/
section Made2
variable {S S1 S2 : eM} {post : eQ} {b n a : Nat}
theorem q_J.rf (hz : ∀ j, mI S 1 b j = 0) : q_J b S 0 S := ⟨fun _ _ _ => ⟨rfl, rfl, rfl⟩, fun q hq => Or.inl hq, hz, ⟨fun z => absurd z (by decide), fun z => absurd z (by decide), fun z => absurd z (by decide), fun z => absurd z (by decide)⟩, fun p _ z => absurd z (by omega), fun p _ z => absurd z (by omega)⟩
theorem q_X2_init {i : Nat} (h : post none S) : w_X2_init [aR 2 i] S post := e_walk (stops := []) 20 h
theorem q_X1_init {i : Nat} (h : post none S) : w_X1_init [aR 3 i] S post := e_walk (stops := []) 20 h
theorem q_X0_init (hz : ∀ j, mI S 1 b j = 0) (hf : ∀ k i, q_bn b k i → k ≠ 1 → (k, i) ∉ mP S) (h : ∀ S2, q_J b S 24 S2 → post none S2) : w_X0_init [aR 1 b] S post := by
  have b4 : ∀ k, k = 4 ∨ k = 5 ∨ k = 6 ∨ k = 7 → q_bn b k b := fun k hk => Or.inr (Or.inr ⟨hk, rfl⟩)
  have loop2 : ∀ d k, k + d = 10 → ∀ S1 bc bs, q_J b S (14 + k) S1 → d ≤ bc → 5 * d ≤ bs → e_Run tb_X0_init post e_no 146 [some (aR 1 b), some (aI (nI k))] [] S1 bc bs := by
    intro d
    induction d with
    | zero =>
      intro k hk S1 bc bs hJ _ _
      obtain rfl : k = 10 := by omega
      refine e_walk (stops := []) 20 ?_
      exact And.intro (fun _ => h S1 hJ) (fun c => absurd (by decide) c)
    | succ d ih =>
      intro k hk S1 bc bs hJ hbc hbs
      refine e_walk (stops := [156]) 20 ?_
      refine And.intro (fun c => absurd c (nI_ge (a := k) (b := 10) (by omega) (by decide))) (fun _ => ?_)
      show e_Run tb_X0_init post e_no 156 [some (aR 1 b), some (aI (nI k))] [aO (mR S1 1 b 2)] S1 bc bs
      rw [hJ.2.2.2.1.2.1 (by omega)]
      refine e_walk (stops := [160]) 20 ?_
      refine ⟨3, 10 * b + k, ⟨rfl, by decide, hJ.fresh hf (Or.inr (Or.inl ⟨Or.inr rfl, by omega⟩)) (by decide) ?_, by omega, by show 5 ≤ bs; omega⟩, fun a => ?_⟩
      · unfold q_rk
        rw [if_neg (show ¬ (3 : Nat) = 2 by decide), if_pos rfl]
        show 14 + k ≤ 14 + (10 * b + k) % 10
        omega
      refine e_walk (stops := [164]) 20 ?_
      refine q_X1_init ?_
      refine e_walk (stops := [146]) 20 ?_
      refine And.intro (q_in (n := k) (L := 10) rfl (by omega) (by decide)) (And.intro (fun q z => by cases z) ?_)
      show e_Run tb_X0_init post e_no 146 [some (aR 1 b), some (aI (nI k + 1))] [] (sR (e_nw S1 3 (10 * b + k) a) 5 b (nI k).toNatClampNeg (some (3, 10 * b + k))) (bc - 1) (bs - 5)
      rw [nI_clamp (by omega), nI_1]
      exact ih (k + 1) (by omega) _ _ _ (q_J_i (by omega) hJ) (by omega) (by omega)
  have loop1 : ∀ d k, k + d = 10 → ∀ S1 bc bs, q_J b S (4 + k) S1 → 10 + d ≤ bc → 50 + 7 * d ≤ bs → e_Run tb_X0_init post e_no 119 [some (aR 1 b), some (aI (nI k))] [] S1 bc bs := by
    intro d
    induction d with
    | zero =>
      intro k hk S1 bc bs hJ hbc hbs
      obtain rfl : k = 10 := by omega
      refine e_walk (stops := [146]) 20 ?_
      refine And.intro (fun _ => ?_) (fun c => absurd (by decide) c)
      exact loop2 10 0 rfl S1 bc bs hJ (by omega) (by omega)
    | succ d ih =>
      intro k hk S1 bc bs hJ hbc hbs
      refine e_walk (stops := [129]) 20 ?_
      refine And.intro (fun c => absurd c (nI_ge (a := k) (b := 10) (by omega) (by decide))) (fun _ => ?_)
      show e_Run tb_X0_init post e_no 129 [some (aR 1 b), some (aI (nI k))] [aO (mR S1 1 b 0)] S1 bc bs
      rw [hJ.2.2.2.1.1 (by omega)]
      refine e_walk (stops := [133]) 20 ?_
      refine ⟨2, 10 * b + k, ⟨rfl, by decide, hJ.fresh hf (Or.inr (Or.inl ⟨Or.inl rfl, by omega⟩)) (by decide) ?_, by omega, by show 7 ≤ bs; omega⟩, fun a => ?_⟩
      · unfold q_rk
        rw [if_pos rfl]
        show 4 + k ≤ 4 + (10 * b + k) % 10
        omega
      refine e_walk (stops := [137]) 20 ?_
      refine q_X2_init ?_
      refine e_walk (stops := [119]) 20 ?_
      refine And.intro (q_in (n := k) (L := 10) rfl (by omega) (by decide)) (And.intro (fun q z => by cases z) ?_)
      show e_Run tb_X0_init post e_no 119 [some (aR 1 b), some (aI (nI k + 1))] [] (sR (e_nw S1 2 (10 * b + k) a) 4 b (nI k).toNatClampNeg (some (2, 10 * b + k))) (bc - 1) (bs - 7)
      rw [nI_clamp (by omega), nI_1]
      exact ih (k + 1) (by omega) _ _ _ (q_J_p (by omega) hJ) (by omega) (by omega)
  have s5 : ∀ S1, q_J b S 4 S1 → e_Run tb_X0_init post e_no 67 [some (aR 1 b), none] [] S1 20 120 := fun S1 hJ => by
    refine e_walk (stops := [119]) 60 ?_
    refine And.intro ⟨rfl, rfl⟩ ?_
    refine loop1 10 0 rfl _ 20 120 ?_ (by decide) (by decide)
    exact hJ.z.z.z.z.z.z.z.z.z.z
  have s4 : ∀ S1, q_J b S 3 S1 → e_Run tb_X0_init post e_no 40 [some (aR 1 b), none] [] S1 21 123 := fun S1 hJ => by
    refine e_walk (stops := [49]) 20 ?_
    refine ⟨7, b, ⟨by decide, by decide, rfl, by decide, rfl, hJ.z.fresh hf (b4 7 (by decide)) (by decide) (by show 3 ≤ q_rk (7, b); unfold q_rk; rw [if_neg (show ¬ (7 : Nat) = 2 by decide), if_neg (show ¬ (7 : Nat) = 3 by decide)]; exact Nat.le_refl 3), by decide, by decide⟩, fun a => ?_⟩
    refine e_walk (stops := [67]) 40 ?_
    refine And.intro (q_in (n := 0) (L := 3) rfl (by decide) (by decide)) (And.intro (q_in (n := 1) (L := 3) rfl (by decide) (by decide)) (And.intro (q_in (n := 2) (L := 3) rfl (by decide) (by decide)) (And.intro (fun q z => by cases z) ?_)))
    exact s5 _ (q_J_a3 hJ.z)
  have s3 : ∀ S1, q_J b S 2 S1 → e_Run tb_X0_init post e_no 27 [some (aR 1 b), none] [] S1 22 133 := fun S1 hJ => by
    refine e_walk (stops := [37]) 20 ?_
    refine ⟨6, b, ⟨by decide, by decide, rfl, by decide, rfl, hJ.z.fresh hf (b4 6 (by decide)) (by decide) (by show 2 ≤ q_rk (6, b); unfold q_rk; rw [if_neg (show ¬ (6 : Nat) = 2 by decide), if_neg (show ¬ (6 : Nat) = 3 by decide)]; exact Nat.le_refl 2), by decide, by decide⟩, fun a => ?_⟩
    refine e_walk (stops := [40]) 20 ?_
    refine And.intro (fun q z => by cases z) ?_
    exact s4 _ (q_J_a2 hJ.z)
  have s2 : ∀ S1, q_J b S 1 S1 → e_Run tb_X0_init post e_no 13 [some (aR 1 b), none] [] S1 23 143 := fun S1 hJ => by
    refine e_walk (stops := [24]) 20 ?_
    refine ⟨5, b, ⟨by decide, by decide, rfl, by decide, rfl, hJ.z.fresh hf (b4 5 (by decide)) (by decide) (by show 1 ≤ q_rk (5, b); unfold q_rk; rw [if_neg (show ¬ (5 : Nat) = 2 by decide), if_neg (show ¬ (5 : Nat) = 3 by decide)]; exact Nat.le_refl 1), by decide, by decide⟩, fun a => ?_⟩
    refine e_walk (stops := [27]) 20 ?_
    refine And.intro (fun q z => by cases z) ?_
    exact s3 _ (q_J_a1 hJ.z)
  have hJ0 := q_J.rf hz
  refine e_walk (stops := [10]) 20 ?_
  refine ⟨4, b, ⟨by decide, by decide, rfl, by decide, rfl, hJ0.fresh hf (b4 4 (by decide)) (by decide) (Nat.zero_le _), by decide, by decide⟩, fun a => ?_⟩
  refine e_walk (stops := [13]) 20 ?_
  refine And.intro (fun q z => by cases z) ?_
  exact s2 _ (q_J_a0 hJ0)
/-- the first row -/
def q_v0 : qV := fun j => if j = 13 then 20 else if j = 14 then 60 else if j = 15 then 30 else 0
theorem q_J.B (h : q_J b S 24 S1) : q_B S1 b q_v0 0 0 0 := by
  obtain ⟨h1, h2, h3, ⟨g0, g1, g2, g3⟩, h5, h6⟩ := h
  obtain ⟨-, t0, t1, t2⟩ := g3 (by decide)
  refine ⟨⟨h3 1, h3 3, h3 5, h3 7, h3 8⟩, fun j hj => ?_, fun j hj => ?_, fun p hp => absurd hp (Nat.not_lt_zero p), fun p hp => absurd hp (Nat.not_lt_zero p), fun p hp => absurd hp (Nat.not_lt_zero p), fun p hp => Or.inl ((h5 p hp (by omega)).2 5)⟩
  · rw [h3]
    rcases (show j = 0 ∨ j = 1 ∨ j = 2 ∨ j = 3 ∨ j = 4 ∨ j = 5 ∨ j = 6 ∨ j = 7 by omega) with rfl | rfl | rfl | rfl | rfl | rfl | rfl | rfl <;> rfl
  · rcases (show j = 0 ∨ j = 1 ∨ j = 2 by omega) with rfl | rfl | rfl
    · exact t0
    · exact t1
    · exact t2
theorem q_inv_v0 : q_inv 0 q_v0 0 0 0 := by
  refine ⟨⟨by decide, by decide, by decide, rfl, rfl, rfl⟩, fun p hp => absurd hp (Nat.not_lt_zero p), fun p hp => absurd hp (Nat.not_lt_zero p), ⟨fun p hp => absurd hp (Nat.not_lt_zero p), fun j k _ hk => absurd hk (Nat.not_lt_zero k)⟩, ⟨fun j a c => ?_, fun j a c => ?_⟩, Or.inl rfl, ⟨0, 0, rfl, rfl, by decide, by decide⟩⟩
  · unfold q_v0
    rw [if_neg (by omega), if_neg (by omega), if_neg (by omega)]
  · unfold q_v0
    rw [if_neg (by omega), if_neg (by omega), if_neg (by omega)]
end Made2
