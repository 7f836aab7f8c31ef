/-! What walks come to: the system's states gone back to. Own work. -/
section Back2
variable {S S1 S2 : eM} {post : eQ} {X : eX} {v sp : qV} {sv : Nat → qV} {sn ln n : Nat} {tk : Bool} {tx : Nat → Int32} {B b np ni nl : Nat} {a a2 : Nat → Nat}
theorem q_X4_undo (hB : q_B S 0 v np ni nl) (hi : q_inv B v np ni nl) (hR : q_ho S sv sn sp tk tx ln B a) (g1 : sn = 0 → X q_IS S) (g0 : 0 < sn → ∀ S2, q_w S S2 → q_Y S2 (q_cp (sv (sn - 1)) v) sv (sn - 1) sp tk tx ln B → post (some (aI (nI (sn - 1)))) S2) : x_X4_undo [aR 0 0] S post X := by
  obtain ⟨⟨h1, h2⟩, ⟨h3, h4⟩, h5, ⟨h6, h7⟩, h8⟩ := hR
  refine e_walk (stops := [4]) 20 ?_
  show e_Run tb_X4_undo post X 4 [some (aR 0 0)] [aI (mI S 0 0 4)] S 1 6
  rw [h1]
  refine e_walk (stops := [12]) 20 ?_
  by_cases c0 : sn = 0
  · rw [c0]
    exact And.intro (fun _ => ⟨rfl, Nat.le_refl 1, Nat.le_refl 6, g1 c0⟩) (fun c => absurd (by decide) c)
  refine And.intro (fun c => absurd ((nI_ltI (show sn < 2 ^ 31 by omega) (show 1 < 2 ^ 31 by decide)).mp c) (by omega)) (fun _ => ?_)
  show e_Run tb_X4_undo post X 12 [some (aR 0 0)] [aI (mI S 0 0 4)] S 1 6
  rw [h1]
  refine e_walk (stops := [35]) 20 ?_
  refine And.intro (fun _ => ?_) (fun c => absurd (nI_le (a := sn) (b := 6) h2 (by decide)) c)
  show e_Run tb_X4_undo post X 35 [some (aR 0 0)] [aI (mI S 0 0 4), aR 0 0] S 1 6
  rw [h1]
  refine e_walk (stops := [37]) 20 ?_
  show e_Run tb_X4_undo post X 37 [some (aR 0 0)] [aI (nI sn - nI 1), aR 0 0] S 1 6
  rw [q_sub (by omega)]
  have eq0 : ∀ k i, k ≠ 0 → mI (sI S 0 0 4 (nI (sn - 1))) k i = mI S k i := fun k i hk => e_u3_ne (fun z => hk (congrArg Prod.fst z))
  have h30 := h3 (sn - 1) (by omega)
  refine e_walk (stops := [52]) 20 ?_
  show e_Run tb_X4_undo post X 52 [some (aR 0 0)] [aI (mI (sI S 0 0 4 (nI (sn - 1))) 0 0 4), aR 8 0, aR 1 0] (sI S 0 0 4 (nI (sn - 1))) 1 6
  rw [q_s_self]
  refine e_walk (stops := [53]) 20 ?_
  refine And.intro (q_in (n := sn - 1) (L := 6) rfl (by omega) (by decide)) ?_
  show e_Run tb_X4_undo post X 53 [some (aR 0 0)] [aO (mR S 8 0 (nI (sn - 1)).toNatClampNeg), aR 1 0] (sI S 0 0 4 (nI (sn - 1))) 1 6
  rw [nI_clamp (by omega), h30.1]
  obtain ⟨p, i, l, b1, b2⟩ := h5 (sn - 1) (by omega)
  have hho : q_ho (sI S 0 0 4 (nI (sn - 1))) sv (sn - 1) sp tk tx ln B a := ⟨⟨q_s_self, by omega⟩, ⟨h3, h4⟩, fun k hk => (h5 k (by omega)).eqm eq0, ⟨by rw [q_s_ne (by omega)]; exact h6, fun y => (h7 y).eqm eq0⟩, h8.eqm (fun i => ⟨eq0 10 i (by decide), eq0 11 i (by decide), rfl⟩)⟩
  refine e_walk (stops := [56]) 20 ?_
  refine q_X0_copyFrom b2.1.1 b2.1.2.1 b2.1.2.2.1 (by omega) (b1.eqm eq0) b2.2.2.2.2.2.1 (fun S2 f2 hB2 => ?_)
  have hho2 := hho.fb f2
  refine e_walk (stops := [60]) 20 ?_
  show e_Run tb_X4_undo post X 60 [some (aR 0 0)] [aI (mI S2 0 0 4)] S2 1 6
  rw [hho2.1.1]
  refine e_walk (stops := []) 20 ?_
  exact g0 (by omega) S2 ((q_w.rf.sI (by decide)).trans (q_w.fb f2)) ⟨_, _, _, a, hB2.row ⟨b2.1.1, b2.1.2.1, b2.1.2.2.1⟩ (fun j hj => if_pos hj), q_inv_cp b2, hho2⟩
theorem q_X4_keep (hB : q_B S 0 v np ni nl) (hi : q_inv B v np ni nl) (hR : q_ho S sv sn sp tk tx ln B a) (g0 : ∀ S2, q_w S S2 → q_Y S2 v sv sn v true tx ln B → post (some (aI (v 3))) S2) : w_X4_keep [aR 0 0] S post := by
  obtain ⟨⟨h1, h2⟩, ⟨h3, h4⟩, h5, ⟨h6, h7⟩, h8⟩ := hR
  refine e_walk (stops := [11]) 20 ?_
  refine q_X0_copyFrom hi.1.1 hi.1.2.1 hi.1.2.2.1 (by decide) hB hi.2.2.2.2.2.1 (fun S2 f2 hB2 => ?_)
  have e0 : mI S2 0 0 = mI S 0 0 := f2.1 0 0 (fun z => by unfold q_rgn at z; omega)
  have eq0 : ∀ k i, k ≠ 0 → mI (sI S2 0 0 2 1) k i = mI S2 k i := fun k i hk => e_u3_ne (fun z => hk (congrArg Prod.fst z))
  have hB0 := (hB.off ⟨hi.1.1, hi.1.2.1⟩ f2 (by decide)).eqm eq0
  refine e_walk (stops := [23]) 20 ?_
  refine And.intro ⟨rfl, rfl⟩ ?_
  show e_Run tb_X4_keep post e_no 23 [some (aR 0 0)] [aI (mI (sI S2 0 0 2 1) 1 0 7)] (sI S2 0 0 2 1) 0 0
  rw [hB0.1.2.2.2.1]
  refine e_walk (stops := []) 20 ?_
  refine g0 _ ((q_w.fb f2).sI (by decide)) ⟨_, _, _, a, hB0, hi, ⟨⟨by rw [q_s_ne (by omega), e0]; exact h1, h2⟩, ⟨?_, h4⟩, fun k hk => ?_, ⟨q_s_self, fun _ => ⟨np, ni, nl, hB2.eqm eq0, hi⟩⟩, (h8.eqm (fun i => ⟨f2.1 10 i (fun z => by unfold q_rgn at z; omega), f2.1 11 i (fun z => by unfold q_rgn at z; omega), by rw [f2.2.1]⟩)).eqm (fun i => ⟨eq0 10 i (by decide), eq0 11 i (by decide), rfl⟩)⟩⟩
  · show ∀ k, k < 6 → mR S2 8 0 k = some (1, a k) ∧ 2 ≤ a k ∧ a k ≤ 7
    rw [f2.2.1]; exact h3
  · have := (h3 k (by omega)).2
    exact ((h5 k hk).off f2 (by omega)).eqm eq0
theorem q_X4_restore (hB : q_B S 0 v np ni nl) (hi : q_inv B v np ni nl) (hR : q_ho S sv sn sp tk tx ln B a) (g1 : tk = false → X q_IS S) (g0 : tk = true → ∀ S2, q_w S S2 → q_Y S2 (q_cp sp v) (q_sv sv sn v) (min sn 5 + 1) sp tk tx ln B → post (some (aI (sp 3))) S2) : x_X4_restore [aR 0 0] S post X := by
  have h6 := hR.2.2.2.1.1
  refine e_walk (stops := [4]) 20 ?_
  show e_Run tb_X4_restore post X 4 [some (aR 0 0)] [aI (mI S 0 0 2)] S 1 6
  rw [h6]
  cases tk with
  | false =>
    refine e_walk (stops := []) 20 ?_
    exact And.intro (fun _ => ⟨rfl, Nat.le_refl 1, Nat.le_refl 6, g1 rfl⟩) (fun c => absurd rfl c)
  | true =>
    refine e_walk (stops := [21]) 20 ?_
    refine And.intro (fun c => absurd c (by decide)) (fun _ => ?_)
    refine q_X4_save hR hB hi (fun S2 a2 w2 hB2 hR2 => ?_)
    obtain ⟨p, i, l, b1, b2⟩ := hR2.2.2.2.1.2 rfl
    refine e_walk (stops := [32]) 20 ?_
    refine q_X0_copyFrom b2.1.1 b2.1.2.1 b2.1.2.2.1 (by decide) b1 b2.2.2.2.2.2.1 (fun S3 f3 hB3 => ?_)
    refine e_walk (stops := [39]) 20 ?_
    show e_Run tb_X4_restore post X 39 [some (aR 0 0)] [aI (mI S3 1 0 7)] S3 1 6
    rw [hB3.1.2.2.2.1]
    refine e_walk (stops := []) 20 ?_
    exact g0 rfl S3 (w2.trans (q_w.fb f3)) ⟨_, _, _, a2, hB3.row ⟨b2.1.1, b2.1.2.1, b2.1.2.2.1⟩ (fun j hj => if_pos hj), q_inv_cp b2, hR2.fb f3⟩
end Back2
