/-! What walks come to: the system's calls of texts. Own work. -/
section Txt
variable {S S1 S2 : eM} {post : eQ} {X : eX} {v sp : qV} {sv : Nat → qV} {sn ln n : Nat} {tk : Bool} {tx : Nat → Int32} {B b np ni nl : Nat} {a a2 : Nat → Nat}
theorem q_i2c : ∀ n, n < 128 → ((nI n).toUInt32 % 65536).toInt32 = nI n := by decide +kernel
theorem q_X4_append {x : Int32} (hB : q_B S 0 v np ni nl) (hi : q_inv B v np ni nl) (hR : q_ho S sv sn sp tk tx ln B a) (h1 : q_appE ln x = 1 → X q_IA S) (h2 : q_appE ln x = 2 → X q_IS S) (h0 : q_appE ln x = 0 → ∀ S2, q_w S S2 → q_Y S2 v sv sn sp tk (upd tx ln x) (ln + 1) B → post (some (aI (nI (ln + 1)))) S2) : x_X4_append [aR 0 0, aI x] S post X := by
  obtain ⟨hln, i, io, f, n0, hio, hT0, hT1⟩ := hR.2.2.2.2
  refine e_walk (stops := [29]) 20 ?_
  refine And.intro (fun c => ⟨rfl, by decide, by decide, h1 (by unfold q_appE; rw [q_rg_f1 c]; rfl)⟩) (fun c => And.intro (fun c2 => ?_) (fun c2 => ⟨rfl, by decide, by decide, h1 (by unfold q_appE; rw [q_rg_f2 c2]; rfl)⟩))
  have hE : q_appE ln x = cond (decide (ln = 60)) 2 0 := by unfold q_appE; rw [q_rg_t c c2]; rfl
  obtain ⟨n, n1, n2, rfl⟩ := q_rgN (lo := 33) (hi := 126) (by decide) (by decide) c c2
  refine q_X3_length hT1 ?_
  by_cases c60 : ln = 60
  · rw [decide_eq_true c60] at hE
    refine e_walk (stops := []) 20 ?_
    refine And.intro (fun c => absurd ((nI_ltI (show ln < 2 ^ 31 by omega) (show 60 < 2 ^ 31 by decide)).mp c) (by omega)) (fun _ => ⟨rfl, by decide, by decide, h2 hE⟩)
  rw [decide_eq_false c60] at hE
  refine e_walk (stops := [53]) 20 ?_
  refine And.intro (fun _ => ?_) (fun c => absurd (nI_lt (a := ln) (b := 60) (by omega) (by decide)) c)
  refine And.intro (by decide) (And.intro (by decide) ?_)
  show w_X3_add [aR 12 0, aI ((nI n).toUInt32 % 65536).toInt32] S _
  rw [q_i2c n (by omega)]
  refine q_X3_add hT1 hT0 hio.symm (by omega) (by omega) (fun S2 i2 fx hi2 hT2 hO2 => ?_)
  refine e_walk (stops := [60]) 20 ?_
  refine q_X3_length hT2 ?_
  refine e_walk (stops := []) 20 ?_
  exact h0 hE S2 (q_w.g (q_g.fx fx)) ⟨_, _, _, a, hB.g (q_g.fx fx), hi, hR.g (q_g.fx fx) ⟨by omega, i, i2, f, n0, hi2.symm, hO2, hT2⟩⟩
theorem q_X4_clearBuffer (hB : q_B S 0 v np ni nl) (hi : q_inv B v np ni nl) (hR : q_ho S sv sn sp tk tx ln B a) (h0 : ∀ S2, q_w S S2 → q_Y S2 v sv sn sp tk tx 0 B → post (some (aI (nI ln))) S2) : w_X4_clearBuffer [aR 0 0] S post := by
  obtain ⟨hln, i, io, f, n0, hio, hT0, hT1⟩ := hR.2.2.2.2
  refine e_walk (stops := [7]) 20 ?_
  refine q_X3_length hT1 ?_
  refine e_walk (stops := [15]) 20 ?_
  refine And.intro (Nat.le_refl 1) (And.intro (Nat.le_refl 70) ?_)
  refine q_X3_clear hT1 hT0 hio.symm (fun S2 i2 fx hi2 hT2 hO2 => ?_)
  refine e_walk (stops := []) 20 ?_
  exact h0 S2 (q_w.g (q_g.fx fx)) ⟨_, _, _, a, hB.g (q_g.fx fx), hi, hR.g (q_g.fx fx) ⟨by omega, i, i2, f, n0, hi2.symm, hO2, hT2⟩⟩
theorem q_X4_firstError (hR : q_ho S sv sn sp tk tx ln B a) (h0 : post (some (aI (nI (q_fe tx ln)))) S) : w_X4_firstError [aR 0 0] S post := by
  obtain ⟨hln, i, io, f, n0, hio, hT0, hT1⟩ := hR.2.2.2.2
  refine e_walk (stops := [7]) 20 ?_
  refine q_X3_firstWrong hT1 ?_
  exact e_walk (stops := []) 20 h0
theorem q_X4_told {x y : Int32} (hB : q_B S 0 v np ni nl) (hi : q_inv B v np ni nl) (hR : q_ho S sv sn sp tk tx ln B a) (h : q_tlc S v sv sn sp tk tx ln B post X (q_toldE x y) q_IO q_IA (q_ch v x.toNatClampNeg np 4 0 y.toNatClampNeg)) : x_X4_told [aR 0 0, aI x, aI y] S post X := by
  obtain ⟨h1, h2, h0⟩ := h
  obtain ⟨hln, i, io, f, n0, hio, hT0, hT1⟩ := hR.2.2.2.2
  refine e_walk (stops := [4]) 20 ?_
  refine q_X4_isMarch ?_
  cases z : q_ix x 4 with
  | false =>
    refine e_walk (stops := []) 20 ?_
    exact And.intro (fun _ => ⟨rfl, by decide, by decide, h1 (by unfold q_toldE; rw [z]; rfl)⟩) (fun c => absurd rfl c)
  | true =>
    have hE : q_toldE x y = if y < 0 then 2 else 0 := by unfold q_toldE; rw [z]; rfl
    obtain ⟨m, hm, rfl⟩ := q_ix_of (by decide) z
    have h35 := q_tl_35 m hm
    refine e_walk (stops := [36]) 20 ?_
    refine And.intro (fun c => absurd c (by decide)) (fun _ => And.intro (fun c => ?_) (fun c => ⟨rfl, by decide, by decide, h2 (by rw [hE, if_pos (Int32.not_le.mp c)])⟩))
    have hy : ¬ y < 0 := Int32.not_lt.mpr c
    rw [if_neg hy] at hE
    obtain ⟨k, hk, rfl⟩ := nI_of hy
    rw [nI_clamp (by omega), nI_clamp hk] at h0
    refine And.intro (by decide) (And.intro (by decide) ?_)
    refine q_X4_tellLineUp hi.ok0 hi.lips hB hm hT0 hT1 hio (fun S2 i2 g2 hi2 hT2 hO2 => ?_)
    have hY : q_Y S2 v sv sn sp tk tx ln B := ⟨_, _, _, a, hB.g g2, hi, hR.g g2 ⟨hln, i2, io, _, _, hi2, hT2, hO2⟩⟩
    have fin := h0 hE S2 (q_w.g g2) hY
    refine e_walk (stops := [44]) 20 ?_
    refine q_J4_length hT2 ?_
    by_cases c2 : q_tl m 4 0 ≤ k
    · rw [(q_ch_end hi.1.1 4 0 k rfl).mpr c2] at fin
      refine e_walk (stops := []) 20 ?_
      exact And.intro (fun _ => fin) (fun c => absurd (nI_le (a := q_tl m 4 0) (b := k) c2 hk) c)
    · refine e_walk (stops := [55]) 20 ?_
      refine And.intro (fun c => absurd c (nI_ge (a := k) (b := q_tl m 4 0) (by omega) (by omega))) (fun _ => ?_)
      refine q_J4_charAt hT2 (j := k) (by omega) ?_
      exact e_walk (stops := []) 20 fin
theorem q_X4_digestY {mm ss : Nat} (hB : q_B S 0 v np ni nl) (hi : q_inv B v np ni nl) (hR : q_ho S sv sn sp tk tx ln B a) (h6 : v 6 = nI mm) (h7 : v 7 = nI ss) (hs : ss ≤ 4 * mm) (hm : 4 * mm < 2 ^ 20) (h0 : ∀ S2, q_w S S2 → q_Y S2 v sv sn sp tk tx ln B → post (some (aL (q_dig v np ni nl sn mm ss tx ln))) S2) : w_X4_digest [aR 0 0] S post := by
  obtain ⟨hln, i, io, f, n0, hio, hT0, hT1⟩ := hR.2.2.2.2
  refine q_X4_digest hi hB hT0 hT1 hio hR.1.1 h6 h7 hs hm (fun S2 i2 f2 n2 g2 hi2 hT2 hO2 => ?_)
  exact h0 S2 (q_w.g g2) ⟨_, _, _, a, hB.g g2, hi, hR.g g2 ⟨hln, i2, io, f2, n2, hi2, hT2, hO2⟩⟩
theorem q_X4_bestMarchY (hB : q_B S 0 v np ni nl) (hi : q_inv B v np ni nl) (hR : q_ho S sv sn sp tk tx ln B a) (h0 : ∀ S2, q_w S S2 → q_Y S2 v sv sn sp tk tx ln B → post (some (aI (nI (q_bs v np 4)))) S2) : w_X4_bestMarch [aR 0 0] S post :=
  q_X4_bestMarch hi.ok0 hi.lips hB (fun S2 f2 => h0 S2 (q_w.f0 (q_f0.f9 f2)) (q_Y.f9 hB hi hR f2))
end Txt
