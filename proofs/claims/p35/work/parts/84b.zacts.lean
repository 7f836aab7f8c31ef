/-! The same, kept by each act. Own work. -/
section ZActs
variable {v v2 : qV} {B n np ni nl : Nat}
theorem z_dn {i d t : Nat} (h : q_its v i 1 = nI d) (hd : d ≤ 9) (ht : t ≤ 9) : q_dn v i (nI t) = nI (min 9 (d + t)) := by
  unfold q_dn
  rw [h, nI_add]
  by_cases c : 9 < d + t
  · rw [if_pos (show (9 : Int32) < nI (d + t) from nI_lt (a := 9) c (by omega)), show min 9 (d + t) = 9 by omega]; rfl
  · rw [if_neg (show ¬ (9 : Int32) < nI (d + t) from nI_nlt (a := 9) (b := d + t) (by omega) (by omega)), show min 9 (d + t) = d + t by omega]
theorem z_dents_at {i j : Nat} {x : Int32} (a : j ≠ 86 + 5 * i + 1) (b : j ≠ 86 + 5 * i + 4) : q_dents v i x j = v j := by unfold q_dents; rw [q_un b, q_un a]
theorem z_b1_dents {i t : Nat} (h : z_b1 v i) (ht : t ≤ 9) : z_b1 (q_dents v i (nI t)) i := by
  obtain ⟨d, c, l, ⟨e1, e4, e2⟩, h1, h2, h3, h4⟩ := h
  have hdn := z_dn e1 h2 ht
  have x1 : q_its (q_dents v i (nI t)) i 1 = nI (min 9 (d + t)) := by rw [q_its, q_dents, q_un (by omega), q_ue]; exact hdn
  have x2 : q_its (q_dents v i (nI t)) i 2 = nI l := by rw [q_its, z_dents_at (by omega) (by omega)]; exact e2
  have x4 : q_its (q_dents v i (nI t)) i 4 = if 0 < q_its v i 2 then q_its v i 4 + q_dn v i (nI t) - q_its v i 1 else 0 := by rw [q_its, q_dents, q_ue]
  rw [e2, e4, e1, hdn, nI_add] at x4
  by_cases hl : l = 0
  · rw [hl, if_neg (by decide)] at x4
    exact ⟨_, 0, l, ⟨x1, x4, x2⟩, by omega, by omega, h3, fun _ => rfl⟩
  · rw [if_pos (show (0 : Int32) < nI l from nI_lt (a := 0) (by omega) (by omega)), q_sub (by omega)] at x4
    exact ⟨_, _, l, ⟨x1, x4, x2⟩, by omega, by omega, h3, fun z => absurd z hl⟩
theorem z_b_dents {i t : Nat} (h : z_b v ni) (hi : i < ni) (ht : t ≤ 9) : z_b (q_dents v i (nI t)) ni := fun i2 h2 => by
  by_cases c : i2 = i
  · rw [c]; exact z_b1_dents (h i hi) ht
  · exact (h i2 h2).cg (z_dents_at (by omega) (by omega)) (z_dents_at (by omega) (by omega)) (z_dents_at (by omega) (by omega))
theorem z_ok_dents {i t : Nat} (h : z_ok n v np ni nl) (hnp : np ≤ 10) (hi : i < ni) (ht : t ≤ 9) : z_ok n (q_dents v i (nI t)) np ni nl := by
  obtain ⟨ha, hb, hc, hd, he, hf, hg⟩ := h
  refine ⟨ha.cg fun p hp => z_dents_at (by omega) (by omega), z_b_dents hb hi ht, hc.cg (z_dents_at (by omega) (by omega)) (z_dents_at (by omega) (by omega)), hd.cg fun j a b => z_dents_at (by omega) (by omega), he.cg (fun p hp => z_dents_at (by omega) (by omega)) (z_dents_at (by omega) (by omega)) (z_dents_at (by omega) (by omega)), hf.cg (fun p hp => z_dents_at (by omega) (by omega)) (z_dents_at (by omega) (by omega)) (z_dents_at (by omega) (by omega)), ?_⟩
  rw [z_ct_cg ni (fun k hk => z_dents_at (by omega) (by omega))]
  exact hg
theorem z_ok_mend {i : Nat} (h : z_ok n v np ni nl) (hnp : np ≤ 10) (hni : ni ≤ 10) (hi : i < ni) (hl : ¬ 0 < q_its v i 2) : z_ok n (q_mend v i) np ni nl := by
  obtain ⟨ha, hb, hc, hd, he, hf, hg⟩ := h
  have e : ∀ j, j ≠ 86 + 5 * i + 1 → j ≠ 12 → j ≠ 8 → q_mend v i j = v j := fun j a b c => by unfold q_mend; rw [q_un c, q_un b, q_un a]
  have x1 : q_mend v i (86 + 5 * i + 1) = 0 := by unfold q_mend; rw [q_un (by omega), q_un (by omega), q_ue]
  have x2 : q_mend v i 12 = v 12 + 15 * q_its v i 1 := by unfold q_mend; rw [q_un (by omega), q_ue]
  have x3 : q_mend v i 8 = v 8 - 15 * q_its v i 1 := by unfold q_mend; rw [q_ue]
  refine ⟨ha.cg fun p hp => e _ (by omega) (by omega) (by omega), fun i2 h2 => ?_, hc.cg (e _ (by omega) (by omega) (by omega)) (e _ (by omega) (by omega) (by omega)), ?_, he.cg (fun p hp => e _ (by omega) (by omega) (by omega)) (e _ (by omega) (by omega) (by omega)) (e _ (by omega) (by omega) (by omega)), hf.cg (fun p hp => e _ (by omega) (by omega) (by omega)) (e _ (by omega) (by omega) (by omega)) (e _ (by omega) (by omega) (by omega)), ?_⟩
  · by_cases c : i2 = i
    · subst c
      obtain ⟨d, c, l, ⟨e1, e4, e2⟩, h1, h2, h3, h4⟩ := hb i2 hi
      have l0 : l = 0 := q_nI0n (by omega) (by rw [← e2]; exact hl)
      exact ⟨0, c, l, ⟨x1, (e _ (by omega) (by omega) (by omega)).trans e4, (e _ (by omega) (by omega) (by omega)).trans e2⟩, by rw [h4 l0]; exact Nat.le_refl _, by omega, h3, h4⟩
    · exact (hb i2 h2).cg (e _ (by omega) (by omega) (by omega)) (e _ (by omega) (by omega) (by omega)) (e _ (by omega) (by omega) (by omega))
  · unfold z_d
    rw [x3, x2, e 9 (by omega) (by omega) (by omega), e 10 (by omega) (by omega) (by omega), e 11 (by omega) (by omega) (by omega)]
    exact z_r7 hd
  · rw [z_ct_cg ni (fun k hk => e _ (by omega) (by omega) (by omega))]
    exact hg
theorem z_ok_lend {i p : Nat} (h : z_ok n v np ni nl) (hnp : np ≤ 10) (hni : ni ≤ 10) (hi : i < ni) (hp : p < np) (hl : ¬ 0 < q_its v i 2) : z_ok n (q_lend v nl i p) np ni (nl + 1) := by
  obtain ⟨ha, hb, hc, hd, he, hf, hg⟩ := h
  have e : ∀ j, j < 136 → j ≠ 86 + 5 * i + 2 → j ≠ 86 + 5 * i + 4 → j ≠ 16 + 7 * p + 4 → j ≠ 2 → q_lend v nl i p j = v j := fun j d a b c e => by unfold q_lend; rw [q_un e, q_un (by omega), q_un c, q_un b, q_un a]
  have x1 : q_lend v nl i p (86 + 5 * i + 2) = nI (p + 1) := by unfold q_lend; rw [q_un (by omega), q_un (by omega), q_un (by omega), q_un (by omega), q_ue]
  have x4 : q_lend v nl i p (86 + 5 * i + 4) = 0 := by unfold q_lend; rw [q_un (by omega), q_un (by omega), q_un (by omega), q_ue]
  have hne : ¬ nI (p + 1) = 0 := nI_ne0 (by omega) (by omega)
  obtain ⟨d0, c0, l0, ⟨e1, e4, e2⟩, k1, k2, k3, k4⟩ := hb i hi
  have hl0 : l0 = 0 := q_nI0n (by omega) (by rw [← e2]; exact hl)
  refine ⟨ha.cg fun p hp => e _ (by omega) (by omega) (by omega) (by omega) (by omega), fun i2 h2 => ?_, hc.cg (e _ (by omega) (by omega) (by omega) (by omega) (by omega)) (e _ (by omega) (by omega) (by omega) (by omega) (by omega)), hd.cg fun j a b => e _ (by omega) (by omega) (by omega) (by omega) (by omega), he.cg (fun p hp => e _ (by omega) (by omega) (by omega) (by omega) (by omega)) (e _ (by omega) (by omega) (by omega) (by omega) (by omega)) (e _ (by omega) (by omega) (by omega) (by omega) (by omega)), hf.cg (fun p hp => e _ (by omega) (by omega) (by omega) (by omega) (by omega)) (e _ (by omega) (by omega) (by omega) (by omega) (by omega)) (e _ (by omega) (by omega) (by omega) (by omega) (by omega)), ?_⟩
  · by_cases c : i2 = i
    · subst c
      exact ⟨d0, 0, p + 1, ⟨(e _ (by omega) (by omega) (by omega) (by omega) (by omega)).trans e1, x4, x1⟩, by omega, k2, by omega, fun z => absurd z (by omega)⟩
    · exact (hb i2 h2).cg (e _ (by omega) (by omega) (by omega) (by omega) (by omega)) (e _ (by omega) (by omega) (by omega) (by omega) (by omega)) (e _ (by omega) (by omega) (by omega) (by omega) (by omega))
  · have z := z_ct_up (v := v) (v2 := q_lend v nl i p) ni hi (fun k a b => e _ (by omega) (by omega) (by omega) (by omega) (by omega))
    have y1 : q_its (q_lend v nl i p) i 2 = nI (p + 1) := x1
    rw [e2, hl0, if_pos (by rfl), y1, if_neg hne] at z
    omega
theorem z_ok_teach {p t : Nat} (h : z_ok n v np ni nl) (hnp : np ≤ 10) (hp : p < np) : z_ok n (q_teach v p t) np ni nl := by
  obtain ⟨ha, hb, hc, hd, he, hf, hg⟩ := h
  have e : ∀ j, j ≠ 16 + 7 * p + 2 → j ≠ 16 + 7 * p + 1 → j ≠ 16 + 7 * p + 5 → j ≠ 5 → j ≠ 11 → j ≠ 8 → q_teach v p t j = v j := fun j a b c d e f => q_teach_at a b c d e f
  have x1 : q_teach v p t 11 = v 11 + nI (q_fee t) := by unfold q_teach; rw [q_un (by omega), q_ue]
  have x2 : q_teach v p t 8 = v 8 - nI (q_fee t) := by unfold q_teach; rw [q_ue]
  refine ⟨ha.cg fun p hp => e _ (by omega) (by omega) (by omega) (by omega) (by omega) (by omega), hb.cg fun i hi => ⟨e _ (by omega) (by omega) (by omega) (by omega) (by omega) (by omega), e _ (by omega) (by omega) (by omega) (by omega) (by omega) (by omega), e _ (by omega) (by omega) (by omega) (by omega) (by omega) (by omega)⟩, hc.cg (e _ (by omega) (by omega) (by omega) (by omega) (by omega) (by omega)) (e _ (by omega) (by omega) (by omega) (by omega) (by omega) (by omega)), ?_, he.cg (fun p hp => e _ (by omega) (by omega) (by omega) (by omega) (by omega) (by omega)) (e _ (by omega) (by omega) (by omega) (by omega) (by omega) (by omega)) (e _ (by omega) (by omega) (by omega) (by omega) (by omega) (by omega)), hf.cg (fun p hp => e _ (by omega) (by omega) (by omega) (by omega) (by omega) (by omega)) (e _ (by omega) (by omega) (by omega) (by omega) (by omega) (by omega)) (e _ (by omega) (by omega) (by omega) (by omega) (by omega) (by omega)), ?_⟩
  · unfold z_d
    rw [x2, x1, e 9 (by omega) (by omega) (by omega) (by omega) (by omega) (by omega), e 10 (by omega) (by omega) (by omega) (by omega) (by omega) (by omega), e 12 (by omega) (by omega) (by omega) (by omega) (by omega) (by omega)]
    exact z_r6 hd
  · rw [z_ct_cg ni (fun k hk => e _ (by omega) (by omega) (by omega) (by omega) (by omega) (by omega))]
    exact hg
theorem z_pays {p a d : Nat} (h : q_of v p 3 = nI d) (hd : d < 2 ^ 31) (ha : a < 2 ^ 31) : q_pays v p (nI a) = nI (min a d) := by
  unfold q_pays
  rw [h]
  by_cases c : a < d
  · rw [if_pos (nI_lt c hd), show min a d = a by omega]
  · rw [if_neg (nI_nlt (a := a) (b := d) (by omega) ha), show min a d = d by omega]
theorem z_ok_pay {p a : Nat} (h : z_ok n v np ni nl) (hn : n ≤ 1000) (hnp : np ≤ 10) (hp : p < np) (ha : a < 2 ^ 31) : z_ok n (q_pay v p (nI a)) np ni nl := by
  obtain ⟨hA, hb, hc, hd, he, hf, hg⟩ := h
  obtain ⟨d, e1, e2⟩ := hA p hp
  have hpp := z_pays e1 (by omega) ha
  have e : ∀ j, j ≠ 16 + 7 * p + 3 → j ≠ 10 → j ≠ 8 → q_pay v p (nI a) j = v j := fun j a b c => by unfold q_pay; rw [q_un c, q_un b, q_un a]
  have x1 : q_pay v p (nI a) (16 + 7 * p + 3) = q_of v p 3 - q_pays v p (nI a) := by unfold q_pay; rw [q_un (by omega), q_un (by omega), q_ue]
  have x2 : q_pay v p (nI a) 10 = v 10 + q_pays v p (nI a) := by unfold q_pay; rw [q_un (by omega), q_ue]
  have x3 : q_pay v p (nI a) 8 = v 8 + q_pays v p (nI a) := by unfold q_pay; rw [q_ue]
  refine ⟨fun p2 h2 => ?_, hb.cg fun i hi => ⟨e _ (by omega) (by omega) (by omega), e _ (by omega) (by omega) (by omega), e _ (by omega) (by omega) (by omega)⟩, hc.cg (e _ (by omega) (by omega) (by omega)) (e _ (by omega) (by omega) (by omega)), ?_, he.cg (fun p hp => e _ (by omega) (by omega) (by omega)) (e _ (by omega) (by omega) (by omega)) (e _ (by omega) (by omega) (by omega)), hf.cg (fun p hp => e _ (by omega) (by omega) (by omega)) (e _ (by omega) (by omega) (by omega)) (e _ (by omega) (by omega) (by omega)), ?_⟩
  · by_cases c : p2 = p
    · subst c
      refine ⟨d - min a d, ?_, by omega⟩
      rw [q_of, x1, e1, hpp]
      exact q_sub (by omega)
    · rw [q_of, e _ (by omega) (by omega) (by omega)]
      exact hA p2 h2
  · unfold z_d
    rw [x3, x2, e 9 (by omega) (by omega) (by omega), e 11 (by omega) (by omega) (by omega), e 12 (by omega) (by omega) (by omega)]
    exact z_r5 hd
  · rw [z_ct_cg ni (fun k hk => e _ (by omega) (by omega) (by omega))]
    exact hg
theorem z_ok_set {k y : Nat} (h : z_ok n v np ni nl) (hnp : np ≤ 10) (hk : k < 3) (h0 : k = 0 → y ≤ 50) (h2 : k = 2 → y ≤ 99) : z_ok n (upd v (13 + k) (nI y)) np ni nl := by
  obtain ⟨ha, hb, ⟨a, c, c1, c2, c3, c4⟩, hd, he, hf, hg⟩ := h
  have e : ∀ j, j ≠ 13 + k → upd v (13 + k) (nI y) j = v j := fun j a => q_un a
  refine ⟨ha.cg fun p hp => e _ (by omega), hb.cg fun i hi => ⟨e _ (by omega), e _ (by omega), e _ (by omega)⟩, ?_, hd.cg fun j a b => e _ (by omega), he.cg (fun p hp => e _ (by omega)) (e _ (by omega)) (e _ (by omega)), hf.cg (fun p hp => e _ (by omega)) (e _ (by omega)) (e _ (by omega)), ?_⟩
  · rcases (show k = 0 ∨ k = 1 ∨ k = 2 by omega) with rfl | rfl | rfl
    · exact ⟨y, c, q_ue, h0 rfl, (e 15 (by decide)).trans c3, c4⟩
    · exact ⟨a, c, (e 13 (by decide)).trans c1, c2, (e 15 (by decide)).trans c3, c4⟩
    · exact ⟨a, y, (e 13 (by decide)).trans c1, c2, q_ue, h2 rfl⟩
  · rw [z_ct_cg ni (fun k hk => e _ (by omega))]
    exact hg
theorem z_ok_ps {d : Int32} (h : z_ok n v np ni nl) (hnp : np ≤ 10) (hni : ni ≤ 10) : z_ok n (q_ps v d np) np ni nl := by
  obtain ⟨ha, hb, hc, hd, he, hf, hg⟩ := h
  have e : ∀ j, (5 ≤ j ∧ j < 16) → q_ps v d np j = v j := fun j a => q_ps_at v d np j (Or.inr (Or.inr (Or.inr (Or.inl a))))
  have e2 : ∀ j, 16 + 7 * np ≤ j → q_ps v d np j = v j := fun j a => q_ps_at v d np j (Or.inr (Or.inr (Or.inr (Or.inr (Or.inl a)))))
  have e3 : ∀ p w, w < 7 → w ≠ 1 → w ≠ 5 → q_of (q_ps v d np) p w = q_of v p w := fun p w a b c => q_ps_at v d np _ (Or.inr (Or.inr (Or.inr (Or.inr (Or.inr ⟨p, w, a, b, c, rfl⟩)))))
  refine ⟨ha.cg fun p hp => e3 p 3 (by decide) (by decide) (by decide), hb.cg fun i hi => ⟨e2 _ (by omega), e2 _ (by omega), e2 _ (by omega)⟩, hc.cg (e _ (by decide)) (e _ (by decide)), hd.cg fun j a b => e _ (by omega), he.cg (fun p hp => e3 p 6 (by decide) (by decide) (by decide)) (e _ (by decide)) (e _ (by decide)), hf.cg (fun p hp => e2 _ (by omega)) (e _ (by decide)) (e _ (by decide)), ?_⟩
  rw [z_ct_cg ni (fun k hk => e2 _ (by omega))]
  exact hg
theorem z_ok_pupil {x : Int32} (h : z_ok n v np ni nl) (hn : np < 10) (hz : ∀ j, 16 + 7 * np ≤ j → j < 86 → v j = 0) : z_ok n (q_pupil v np x) (np + 1) ni nl := by
  obtain ⟨ha, hb, hc, hd, he, hf, hg⟩ := h
  have e : ∀ j, j ≠ 16 + 7 * np → j ≠ 16 + 7 * np + 1 → j ≠ 16 + 7 * np + 2 → j ≠ 0 → q_pupil v np x j = v j := fun j a b c d => by unfold q_pupil; rw [q_un d, q_un c, q_un b, q_un a]
  have x3 : q_of (q_pupil v np x) np 3 = 0 := (e _ (by omega) (by omega) (by omega) (by omega)).trans (hz _ (by omega) (by omega))
  have x6 : q_of (q_pupil v np x) np 6 = 0 := (e _ (by omega) (by omega) (by omega) (by omega)).trans (hz _ (by omega) (by omega))
  refine ⟨fun p hp => ?_, hb.cg fun i hi => ⟨e _ (by omega) (by omega) (by omega) (by omega), e _ (by omega) (by omega) (by omega) (by omega), e _ (by omega) (by omega) (by omega) (by omega)⟩, hc.cg (e _ (by omega) (by omega) (by omega) (by omega)) (e _ (by omega) (by omega) (by omega) (by omega)), hd.cg fun j a b => e _ (by omega) (by omega) (by omega) (by omega), ?_, hf.cg (fun p hp => e _ (by omega) (by omega) (by omega) (by omega)) (e _ (by omega) (by omega) (by omega) (by omega)) (e _ (by omega) (by omega) (by omega) (by omega)), ?_⟩
  · by_cases c : p = np
    · rw [c, x3]; exact ⟨0, rfl, Nat.zero_le _⟩
    · rw [q_of, e _ (by omega) (by omega) (by omega) (by omega)]
      exact ha p (by omega)
  · unfold z_e
    show z_sm (fun p => q_of (q_pupil v np x) p 6) np + q_of (q_pupil v np x) np 6 = _
    rw [x6, Int32.add_zero, z_sm_cg (f := fun p => q_of v p 6) np (fun k hk => e _ (by omega) (by omega) (by omega) (by omega)), e 6 (by omega) (by omega) (by omega) (by omega), e 7 (by omega) (by omega) (by omega) (by omega)]
    exact he
  · rw [z_ct_cg ni (fun k hk => e _ (by omega) (by omega) (by omega) (by omega))]
    exact hg
theorem z_ok_inst {x : Int32} (h : z_ok n v np ni nl) (hnp : np ≤ 10) (hn : ni < 10) (hz : ∀ j, 86 + 5 * ni ≤ j → j < 136 → v j = 0) : z_ok n (q_inst v ni x) np (ni + 1) nl := by
  obtain ⟨ha, hb, hc, hd, he, hf, hg⟩ := h
  have e : ∀ j, j ≠ 86 + 5 * ni → j ≠ 1 → q_inst v ni x j = v j := fun j a b => by unfold q_inst; rw [q_un b, q_un a]
  have z : ∀ w, 1 ≤ w → w < 5 → q_its (q_inst v ni x) ni w = 0 := fun w a b => (e _ (by omega) (by omega)).trans (hz _ (by omega) (by omega))
  refine ⟨ha.cg fun p hp => e _ (by omega) (by omega), fun i hi => ?_, hc.cg (e _ (by omega) (by omega)) (e _ (by omega) (by omega)), hd.cg fun j a b => e _ (by omega) (by omega), he.cg (fun p hp => e _ (by omega) (by omega)) (e _ (by omega) (by omega)) (e _ (by omega) (by omega)), ?_, ?_⟩
  · by_cases c : i = ni
    · rw [c]
      exact ⟨0, 0, 0, ⟨z 1 (by decide) (by decide), z 4 (by decide) (by decide), z 2 (by decide) (by decide)⟩, by decide, by decide, by decide, fun _ => rfl⟩
    · exact (hb i (by omega)).cg (e _ (by omega) (by omega)) (e _ (by omega) (by omega)) (e _ (by omega) (by omega))
  · unfold z_f
    show z_sm (fun i => q_its (q_inst v ni x) i 3) ni + q_its (q_inst v ni x) ni 3 = _
    rw [z 3 (by decide) (by decide), Int32.add_zero, z_sm_cg (f := fun i => q_its v i 3) ni (fun k hk => e _ (by omega) (by omega)), e 6 (by omega) (by omega), e 7 (by omega) (by omega)]
    exact hf
  · show z_ct (q_inst v ni x) ni + (if q_its (q_inst v ni x) ni 2 = 0 then 0 else 1) = nl
    rw [z 2 (by decide) (by decide), if_pos rfl, z_ct_cg ni (fun k hk => e _ (by omega) (by omega))]
    exact hg
end ZActs
