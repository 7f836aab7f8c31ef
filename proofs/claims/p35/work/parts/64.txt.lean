/-! What walks come to: the system's calls of texts. Own work. -/
section Txt
variable {S S1 S2 : eM} {post : eQ} {X : eX} {v sp : qV} {sv : Nat → qV} {sn ln n : Nat} {tk : Bool} {tx : Nat → Int32} {B b np ni nl : Nat} {a a2 : Nat → Nat}
theorem q_i2c : ∀ n, n < 128 → ((nI n).toUInt32 % 65536).toInt32 = nI n := by decide +kernel
theorem q_X4_told {x y : Int32} (hB : q_B S 0 v np ni nl) (hi : q_inv B v np ni nl) (hR : q_ho S sv sn sp tk tx ln B a) (h : q_tlc S v sv sn sp tk tx ln B post X (q_toldE x y) q_IO q_IA (q_ch v x.toNatClampNeg np 4 0 y.toNatClampNeg)) : x_X4_told [aR 0 0, aI x, aI y] S post X := by
  obtain ⟨h1, h2, h0⟩ := h
  obtain ⟨hln, i, io, f, n0, hio, hT0, hT1⟩ := hR.2.2.2.2
  refine e_walk (stops := [4]) 20 ?_
  refine q_X4_isMarch ?_
  cases z : q_ix x 4 with
  | false =>
    refine e_walk (stops := []) 20 ?_
    exact And.intro (fun _ => ⟨rfl, by decide, by decide, h1 (by unfold q_toldE; rw [z]; rfl)⟩) (fun c => absurd rfl c)
  | true =>
    have hE : q_toldE x y = if y < 0 then 2 else 0 := by unfold q_toldE; rw [z]; rfl
    obtain ⟨m, hm, rfl⟩ := q_ix_of (by decide) z
    have h35 := q_tl_35 m hm
    refine e_walk (stops := [36]) 20 ?_
    refine And.intro (fun c => absurd c (by decide)) (fun _ => And.intro (fun c => ?_) (fun c => ⟨rfl, by decide, by decide, h2 (by rw [hE, if_pos (Int32.not_le.mp c)])⟩))
    have hy : ¬ y < 0 := Int32.not_lt.mpr c
    rw [if_neg hy] at hE
    obtain ⟨k, hk, rfl⟩ := nI_of hy
    rw [nI_clamp (by omega), nI_clamp hk] at h0
    refine And.intro (by decide) (And.intro (by decide) ?_)
    refine q_X4_tellLineUp hi.ok0 hi.lips hB hm hT0 hT1 hio (fun S2 i2 g2 hi2 hT2 hO2 => ?_)
    have hY : q_Y S2 v sv sn sp tk tx ln B := ⟨_, _, _, a, hB.g g2, hi, hR.g g2 ⟨hln, i2, io, _, _, hi2, hT2, hO2⟩⟩
    have fin := h0 hE S2 (q_w.g g2) hY
    refine e_walk (stops := [44]) 20 ?_
    refine q_J4_length hT2 ?_
    by_cases c2 : q_tl m 4 0 ≤ k
    · rw [(q_ch_end hi.1.1 4 0 k rfl).mpr c2] at fin
      refine e_walk (stops := []) 20 ?_
      exact And.intro (fun _ => fin) (fun c => absurd (nI_le (a := q_tl m 4 0) (b := k) c2 hk) c)
    · refine e_walk (stops := [55]) 20 ?_
      refine And.intro (fun c => absurd c (nI_ge (a := k) (b := q_tl m 4 0) (by omega) (by omega))) (fun _ => ?_)
      refine q_J4_charAt hT2 (j := k) (by omega) ?_
      exact e_walk (stops := []) 20 fin
theorem q_X4_bestMarchY (hB : q_B S 0 v np ni nl) (hi : q_inv B v np ni nl) (hR : q_ho S sv sn sp tk tx ln B a) (h0 : ∀ S2, q_w S S2 → q_Y S2 v sv sn sp tk tx ln B → post (some (aI (nI (q_bs v np 4)))) S2) : w_X4_bestMarch [aR 0 0] S post :=
  q_X4_bestMarch hi.ok0 hi.lips hB (fun S2 f2 => h0 S2 (q_w.f0 (q_f0.f9 f2)) (q_Y.f9 hB hi hR f2))
end Txt
