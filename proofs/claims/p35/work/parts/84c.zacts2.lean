/-! The same, kept when an instrument is brought back and when a march is played. Own work. -/
section ZActs2
variable {v v2 u : qV} {B n np ni nl : Nat}
theorem z_back_at {i p j : Nat} (hj : j < 136) (h2 : j ≠ 2) : q_back v nl i p j = q_back0 v i p j := by
  unfold q_back
  rw [q_un h2]
  exact (q_bk_le i (q_back0 v i p) nl).2 j hj
theorem z_back0_at {i p j : Nat} (a : j ≠ 16 + 7 * p + 3) (b : j ≠ 16 + 7 * p + 4) (c : j ≠ 86 + 5 * i + 2) (d : j ≠ 86 + 5 * i + 4) : q_back0 v i p j = v j := by
  unfold q_back0
  rw [q_un d, q_un c, q_un b, q_un a]
theorem z_ok_back {i p : Nat} (h : z_ok n v np ni nl) (hn : n ≤ 1000) (hi : q_inv B v np ni nl) (ii : i < ni) (pp : p < np) (hlt : q_its v i 2 = nI (p + 1)) : z_ok (n + 1) (q_back v nl i p) np ni (q_bk i (q_back0 v i p) nl).2 := by
  have hnp := hi.1.1
  have hni := hi.1.2.1
  obtain ⟨ha, hb, hc, hd, he, hf, hg⟩ := h
  have e : ∀ j, j < 136 → j ≠ 2 → j ≠ 16 + 7 * p + 3 → j ≠ 16 + 7 * p + 4 → j ≠ 86 + 5 * i + 2 → j ≠ 86 + 5 * i + 4 → q_back v nl i p j = v j := fun j z y a b c d => (z_back_at z y).trans (z_back0_at a b c d)
  have x3 : q_of (q_back v nl i p) p 3 = q_of v p 3 + v 13 * q_its v i 4 := by
    rw [q_of, z_back_at (by omega) (by omega)]
    unfold q_back0
    rw [q_un (by omega), q_un (by omega), q_un (by omega), q_ue]
  have y2 : q_its (q_back v nl i p) i 2 = 0 := by
    rw [q_its, z_back_at (by omega) (by omega)]
    unfold q_back0
    rw [q_un (by omega), q_ue]
  have y4 : q_its (q_back v nl i p) i 4 = 0 := by
    rw [q_its, z_back_at (by omega) (by omega)]
    unfold q_back0
    rw [q_ue]
  refine ⟨fun p2 h2 => ?_, fun i2 h2 => ?_, hc.cg (e _ (by omega) (by omega) (by omega) (by omega) (by omega) (by omega)) (e _ (by omega) (by omega) (by omega) (by omega) (by omega) (by omega)), hd.cg fun j a b => e _ (by omega) (by omega) (by omega) (by omega) (by omega) (by omega), he.cg (fun p hp => e _ (by omega) (by omega) (by omega) (by omega) (by omega) (by omega)) (e _ (by omega) (by omega) (by omega) (by omega) (by omega) (by omega)) (e _ (by omega) (by omega) (by omega) (by omega) (by omega) (by omega)), hf.cg (fun p hp => e _ (by omega) (by omega) (by omega) (by omega) (by omega) (by omega)) (e _ (by omega) (by omega) (by omega) (by omega) (by omega) (by omega)) (e _ (by omega) (by omega) (by omega) (by omega) (by omega) (by omega)), ?_⟩
  · by_cases c : p2 = p
    · subst c
      obtain ⟨d, d1, d2⟩ := ha p2 pp
      obtain ⟨s, s2, s1, s3, -⟩ := hc
      obtain ⟨d3, c3, l3, ⟨-, e4, -⟩, k1, k2, -⟩ := hb i ii
      have hm : s * c3 ≤ 50 * 9 := Nat.mul_le_mul s3 (by omega)
      rw [x3, d1, s1, e4, nI_mul, nI_add]
      exact ⟨_, rfl, by omega⟩
    · rw [q_of, e _ (by omega) (by omega) (by omega) (by omega) (by omega) (by omega)]
      exact (ha.mono (Nat.le_succ n)) p2 h2
  · by_cases c : i2 = i
    · subst c
      obtain ⟨d3, c3, l3, ⟨e1, -, -⟩, k1, k2, -⟩ := hb i2 ii
      exact ⟨d3, 0, 0, ⟨(e _ (by omega) (by omega) (by omega) (by omega) (by omega) (by omega)).trans e1, y4, y2⟩, Nat.zero_le _, k2, by decide, fun _ => rfl⟩
    · exact (hb i2 h2).cg (e _ (by omega) (by omega) (by omega) (by omega) (by omega) (by omega)) (e _ (by omega) (by omega) (by omega) (by omega) (by omega) (by omega)) (e _ (by omega) (by omega) (by omega) (by omega) (by omega) (by omega))
  · have z := z_ct_up (v := v) (v2 := q_back v nl i p) ni ii (fun k a b => e _ (by omega) (by omega) (by omega) (by omega) (by omega) (by omega))
    rw [hlt, if_neg (nI_ne0 (by omega) (by omega)), y2, if_pos rfl, hg] at z
    have z2 := z_ll_ct hni (q_inv_back hi ii pp hlt).2.2.2.1
    have z3 := (z_bk_ge i (q_back0 v i p) nl).2 (fun a b h1 h2 => by
      rw [z_back0_at (by omega) (by omega) (by omega) (by omega), z_back0_at (by omega) (by omega) (by omega) (by omega)]
      exact hi.2.2.2.1.2 a b h1 h2)
    omega
theorem z_x1 (a b : Int32) : a + b - a = b := by rw [Int32.sub_eq_add_neg, z_r2, ← Int32.sub_eq_add_neg, Int32.sub_self, Int32.zero_add]
def z_w (u : qV) (p i k : Nat) : qV := upd (upd (upd u (16 + 7 * p + 1) (q_of u p 1 - nI (4 + 2 * k))) (16 + 7 * p + 6) (q_of u p 6 + 1)) (86 + 5 * i + 3) (q_its u i 3 + 1)
/-- one part played -/
theorem z_one {p i k : Nat} (hp : p < np) (hnp : np ≤ 10) (hi : i < ni) (hb : z_b u ni) : z_b (q_one u p i k) ni ∧ z_sm (fun p2 => q_of (q_one u p i k) p2 6) np = z_sm (fun p2 => q_of u p2 6) np + 1 ∧ z_sm (fun i2 => q_its (q_one u p i k) i2 3) ni = z_sm (fun i2 => q_its u i2 3) ni + 1 ∧ (∀ i2, q_its (q_one u p i k) i2 2 = q_its u i2 2) ∧ ∀ p2, p2 < np → q_of (q_one u p i k) p2 3 = q_of u p2 3 := by
  have hM : ∃ t, t ≤ 9 ∧ (if (q_its u i 3 + 1) - (q_its u i 3 + 1) / 3 * 3 = 0 then (1 : Int32) else 0) = nI t := by
    split
    · exact ⟨1, by decide, rfl⟩
    · exact ⟨0, by decide, rfl⟩
  obtain ⟨t, ht, hM⟩ := hM
  have hw : q_one u p i k = q_dents (z_w u p i k) i (nI t) := by
    unfold q_one
    rw [hM]
    rfl
  have e : ∀ j, j ≠ 16 + 7 * p + 1 → j ≠ 16 + 7 * p + 6 → j ≠ 86 + 5 * i + 3 → z_w u p i k j = u j := fun j a b c => by unfold z_w; rw [q_un c, q_un b, q_un a]
  have x6 : z_w u p i k (16 + 7 * p + 6) = q_of u p 6 + 1 := by unfold z_w; rw [q_un (by omega), q_ue]
  have x3 : z_w u p i k (86 + 5 * i + 3) = q_its u i 3 + 1 := by unfold z_w; rw [q_ue]
  rw [hw]
  refine ⟨z_b_dents (hb.cg fun i2 h2 => ⟨e _ (by omega) (by omega) (by omega), e _ (by omega) (by omega) (by omega), e _ (by omega) (by omega) (by omega)⟩) hi ht, ?_, ?_, fun i2 => (z_dents_at (by omega) (by omega)).trans (e _ (by omega) (by omega) (by omega)), fun p2 h2 => (z_dents_at (by omega) (by omega)).trans (e _ (by omega) (by omega) (by omega))⟩
  · have y6 : q_of (q_dents (z_w u p i k) i (nI t)) p 6 = q_of u p 6 + 1 := (z_dents_at (by omega) (by omega)).trans x6
    refine (z_sm_up (f := fun p2 => q_of u p2 6) (g := fun p2 => q_of (q_dents (z_w u p i k) i (nI t)) p2 6) np hp (fun k a b => (z_dents_at (by omega) (by omega)).trans (e _ (by omega) (by omega) (by omega)))).trans ?_
    show z_sm _ np + (q_of (q_dents (z_w u p i k) i (nI t)) p 6 - q_of u p 6) = _
    rw [y6, z_x1]
  · have y3 : q_its (q_dents (z_w u p i k) i (nI t)) i 3 = q_its u i 3 + 1 := (z_dents_at (by omega) (by omega)).trans x3
    refine (z_sm_up (f := fun i2 => q_its u i2 3) (g := fun i2 => q_its (q_dents (z_w u p i k) i (nI t)) i2 3) ni hi (fun k a b => (z_dents_at (by omega) (by omega)).trans (e _ (by omega) (by omega) (by omega)))).trans ?_
    show z_sm _ ni + (q_its (q_dents (z_w u p i k) i (nI t)) i 3 - q_its u i 3) = _
    rw [y3, z_x1]
theorem z_mr {m : Nat} (hb : z_b v ni) (hi : q_inv B v np ni nl) : ∀ k, z_b (q_mr v m np k) ni ∧ z_sm (fun p => q_of (q_mr v m np k) p 6) np = z_sm (fun p => q_of v p 6) np + nI (k - q_sh v m np k) ∧ z_sm (fun i => q_its (q_mr v m np k) i 3) ni = z_sm (fun i => q_its v i 3) ni + nI (k - q_sh v m np k) ∧ (∀ i, q_its (q_mr v m np k) i 2 = q_its v i 2) ∧ ∀ p, p < np → q_of (q_mr v m np k) p 3 = q_of v p 3
  | 0 => by
    refine ⟨hb, ?_, ?_, fun _ => rfl, fun _ _ => rfl⟩
    · exact (Int32.add_zero _).symm
    · exact (Int32.add_zero _).symm
  | k + 1 => by
    obtain ⟨h1, h2, h3, h4, h5⟩ := z_mr hb hi k
    have hle := q_sh_le v m np k
    have hsh : q_sh v m np (k + 1) = q_sh v m np k + cond (decide (q_pl v m np k = -1)) 1 0 := rfl
    rw [hsh]
    rcases q_pl_could v m np k with y | ⟨j, y1, y2, y3⟩
    · have e : q_mr v m np (k + 1) = q_mr v m np k := by
        rw [q_mr, decide_eq_true y]; rfl
      rw [e, decide_eq_true y]
      show _ ∧ _ = _ + nI (k + 1 - (q_sh v m np k + 1)) ∧ _ = _ + nI (k + 1 - (q_sh v m np k + 1)) ∧ _
      rw [show k + 1 - (q_sh v m np k + 1) = k - q_sh v m np k by omega]
      exact ⟨h1, h2, h3, h4, h5⟩
    · have hnp := hi.1.1
      have hne : ¬ q_pl v m np k = -1 := by rw [y2]; exact q_nIne (by omega)
      obtain ⟨i, kk, i1, i2, -⟩ := hi.plays y1 (q_could_all y3).1
      have e : q_mr v m np (k + 1) = q_one (q_mr v m np k) j i k := by
        rw [q_mr, decide_eq_false hne, y2, nI_clamp (by omega), i2]; rfl
      rw [e, decide_eq_false hne]
      show _ ∧ _ = _ + nI (k + 1 - (q_sh v m np k + 0)) ∧ _ = _ + nI (k + 1 - (q_sh v m np k + 0)) ∧ _
      obtain ⟨g1, g2, g3, g4, g5⟩ := z_one (k := k) y1 hnp i1 h1
      have hk : ∀ x : Int32, x + nI (k - q_sh v m np k) + 1 = x + nI (k + 1 - (q_sh v m np k + 0)) := fun x => by
        rw [Int32.add_assoc, nI_1, show k - q_sh v m np k + 1 = k + 1 - (q_sh v m np k + 0) by omega]
      exact ⟨g1, by rw [g2, h2, hk], by rw [g3, h3, hk], fun i => (g4 i).trans (h4 i), fun p hp => (g5 p hp).trans (h5 p hp)⟩
theorem z_x2 (a b : Int32) (s : Nat) (hs : s ≤ 4) : 4 * a - b + nI (4 - s) = 4 * (a + 1) - (b + nI s) := by
  rw [← q_sub (a := 4) (b := s) hs, Int32.mul_add, q_subadd, Int32.mul_one]
  simp only [Int32.sub_eq_add_neg]
  rw [← Int32.add_assoc, z_r2 (4 * a) (-b) (nI 4)]
  rfl
theorem z_ok_march {m : Nat} (h : z_ok n v np ni nl) (hi : q_inv B v np ni nl) : z_ok n (q_march v m np) np ni nl := by
  have hnp := hi.1.1
  have hni := hi.1.2.1
  obtain ⟨ha, hb, hc, hd, he, hf, hg⟩ := h
  obtain ⟨r1, r2, r3, r4, r5⟩ := z_mr (m := m) hb hi 4
  have hh : ∀ p, p < np → q_has v p ≤ 10 := fun p hp => (hi.ok0.has hp).1
  have e0 : ∀ j, j < 16 → q_mr v m np 4 j = v j := fun j hj => q_mr_at hnp (Or.inl hj) hh 4
  have e : ∀ j, j ≠ 4 → j ≠ 6 → j ≠ 7 → j ≠ 9 → j ≠ 8 → q_march v m np j = q_mr v m np 4 j := fun j a b c d f => q_march_at a b c d f
  have x6 : q_march v m np 6 = v 6 + 1 := by unfold q_march; rw [q_un (by omega), q_un (by omega), q_un (by omega), q_ue]
  have x7 : q_march v m np 7 = v 7 + nI (q_sh v m np 4) := by unfold q_march; rw [q_un (by omega), q_un (by omega), q_ue]
  have x9 : q_march v m np 9 = v 9 + q_pence v (q_sh v m np 4) := by unfold q_march; rw [q_un (by omega), q_ue]
  have x8 : q_march v m np 8 = v 8 + q_pence v (q_sh v m np 4) := by unfold q_march; rw [q_ue]
  have hs := q_sh_le v m np 4
  refine ⟨ha.cg fun p hp => (e _ (by omega) (by omega) (by omega) (by omega) (by omega)).trans (r5 p hp), r1.cg fun i h2 => ⟨e _ (by omega) (by omega) (by omega) (by omega) (by omega), e _ (by omega) (by omega) (by omega) (by omega) (by omega), e _ (by omega) (by omega) (by omega) (by omega) (by omega)⟩, hc.cg ((e _ (by omega) (by omega) (by omega) (by omega) (by omega)).trans (e0 _ (by omega))) ((e _ (by omega) (by omega) (by omega) (by omega) (by omega)).trans (e0 _ (by omega))), ?_, ?_, ?_, ?_⟩
  · unfold z_d
    rw [x8, x9, (e 10 (by omega) (by omega) (by omega) (by omega) (by omega)).trans (e0 _ (by omega)), (e 11 (by omega) (by omega) (by omega) (by omega) (by omega)).trans (e0 _ (by omega)), (e 12 (by omega) (by omega) (by omega) (by omega) (by omega)).trans (e0 _ (by omega))]
    exact z_r4 hd
  · unfold z_e
    rw [x6, x7, z_sm_cg (f := fun p => q_of (q_mr v m np 4) p 6) np (fun k hk => e _ (by omega) (by omega) (by omega) (by omega) (by omega)), r2, he]
    exact z_x2 _ _ _ hs
  · unfold z_f
    rw [x6, x7, z_sm_cg (f := fun i => q_its (q_mr v m np 4) i 3) ni (fun k hk => e _ (by omega) (by omega) (by omega) (by omega) (by omega)), r3, hf]
    exact z_x2 _ _ _ hs
  · rw [z_ct_cg ni (fun k hk => (e _ (by omega) (by omega) (by omega) (by omega) (by omega)).trans (r4 k))]
    exact hg
end ZActs2
