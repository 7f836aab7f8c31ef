/-! What walks come to: the system made, 2. Own work. -/
section Made4
variable {S S1 S2 : eM} {post : eQ} {b n a m : Nat} {L T : List (Nat × Nat)} {R : List ((Nat × Nat × Nat) × (Nat × Nat))}
theorem q_K.bld (h : q_K S L m R T S1) {s i : Nat} (e : ∀ k2 i2, ¬ (k2 = 10 ∧ i2 = s) → ¬ (k2 = 11 ∧ i2 = i) → mI S2 k2 i2 = mI S1 k2 i2 ∧ mR S2 k2 i2 = mR S1 k2 i2 ∧ mL S2 k2 i2 = mL S1 k2 i2) (eP : mP S2 = mP S1 ++ [(11, i)]) (t : q_T1 S2 s i (fun _ => 0) 0) (hT : ∀ t, t ∈ T → t.1 ≠ s ∧ t.2 ≠ i) : q_K S L m R ((s, i) :: T) S2 := by
  obtain ⟨h1, h2, h3, h4, h5, h6⟩ := h
  have out : ∀ k i2, k < 10 ∨ 11 < k → mI S2 k i2 = mI S1 k i2 ∧ mR S2 k i2 = mR S1 k i2 ∧ mL S2 k i2 = mL S1 k i2 := fun k i2 hk => e k i2 (by omega) (by omega)
  refine ⟨fun q hq => ?_, fun c hc => (h2 c hc).keep (fun k i hk => ⟨(out k i (by unfold q_bn at hk; omega)).1, (out k i (by unfold q_bn at hk; omega)).2.1⟩), fun j => by rw [(out 0 0 (by omega)).1]; exact h3 j, fun x hx => ⟨(h4 x hx).1, by rw [(out _ _ (by have := (h4 x hx).1; omega)).2.1]; exact (h4 x hx).2⟩, fun t2 ht => ?_, fun k i hk => ?_⟩
  · rw [eP] at hq
    rcases List.mem_append.mp hq with z | z
    · exact h1 q z
    · rw [List.mem_singleton] at z
      subst z
      exact Or.inr (Or.inl rfl)
  · rcases List.mem_cons.mp ht with rfl | ht
    · exact t
    · obtain ⟨t0, t1, t3, t4, t6, t7⟩ := h5 t2 ht
      obtain ⟨n1, n2⟩ := hT t2 ht
      have o10 := e 10 t2.1 (fun z => n1 z.2) (by omega)
      have o11 := e 11 t2.2 (by omega) (fun z => n2 z.2)
      exact ⟨by rw [o10.2.1]; exact t0, by rw [o10.1]; exact t1, by rw [o10.1]; exact t3, t4, by rw [o11.1]; exact t6, by rw [o11.1]; exact t7⟩
  · have e := out k i (by omega)
    have f := h6 k i hk
    exact ⟨e.1.trans f.1, e.2.1.trans f.2.1, e.2.2.trans f.2.2⟩
theorem q_X3_init (hK : q_K S L m R [] S1) (hL : (10, 1) ∉ L) (hR : ∀ x, x ∈ R → x.1 ≠ (12, 0, 0)) (h : ∀ S2 i, q_K S ((10, 1) :: L) m (((12, 0, 0), (10, 1)) :: R) [(1, i)] S2 → post none S2) : w_X3_init [aR 12 0] S1 post := by
  refine e_walk (stops := [8]) 20 ?_
  refine ⟨10, 1, ⟨rfl, by decide, hK.fresh hL (by decide) (fun c hc z => by unfold q_bn at z; omega), by decide, by decide⟩, fun a => ?_⟩
  have K2 := hK.nw (k := 10) (i := 1) (a := a) (by decide) (fun x hx z => by have := (hK.2.2.2.1 x hx).1; omega) (fun t ht => absurd ht List.not_mem_nil)
  have hz : ∀ j, mI (e_nw S1 10 1 a) 10 1 j = 0 := fun j => q_nw_eq (S := S1) (a := a)
  generalize e_nw S1 10 1 a = S3 at *
  refine e_walk (stops := [12]) 20 ?_
  refine And.intro (by decide) (And.intro (by decide) ?_)
  refine q_J4_init (c := 0) hz (fun S4 i e eP _ t => ?_)
  have K3 := K2.bld e eP t (fun t ht => absurd ht List.not_mem_nil)
  refine e_walk (stops := []) 20 ?_
  refine And.intro (fun q z => by cases z) ?_
  exact h _ i (K3.r (by decide) hR)
def q_Rs : Nat → List ((Nat × Nat × Nat) × (Nat × Nat))
  | 0 => [((0, 0, 7), (10, 0)), ((0, 0, 6), (9, 0)), ((0, 0, 5), (12, 0)), ((12, 0, 0), (10, 1)), ((0, 0, 3), (8, 0)), ((0, 0, 1), (1, 1)), ((0, 0, 0), (1, 0))]
  | k + 1 => ((8, 0, k), (1, 2 + k)) :: q_Rs k
theorem q_Rs_no : ∀ k, k < 6 → ∀ x, x ∈ q_Rs k → x.1 ≠ (8, 0, k) := by decide
theorem q_Rs_3 : ∀ k, k < 6 → ((0, 0, 3), (8, 0)) ∈ q_Rs k := by decide
abbrev q_Lf : List (Nat × Nat) := [(10, 0), (9, 0), (10, 1), (12, 0), (8, 0), (0, 0)]
theorem q_X4_init (hP : ∀ q, q ∈ mP S → q = (0, 0)) (hz : ∀ j, mI S 0 0 j = 0) (h : ∀ S2 i0 i1, i0 ≠ i1 → q_K S q_Lf 8 (q_Rs 6) [(0, i0), (1, i1)] S2 → post none S2) : w_X4_init [aR 0 0] S post := by
  have K0 : q_K S [(0, 0)] 0 [] [] S := ⟨fun q hq => Or.inl (by rw [hP q hq]; exact List.mem_singleton.mpr rfl), fun c hc => absurd hc (Nat.not_lt_zero c), hz, fun x hx => absurd hx List.not_mem_nil, fun x hx => absurd hx List.not_mem_nil, fun _ _ _ => ⟨rfl, rfl, rfl⟩⟩
  have loop : ∀ d k, k + d = 6 → ∀ S1 i0 i1 bc bs, i0 ≠ i1 → q_K S q_Lf (2 + k) (q_Rs k) [(0, i0), (1, i1)] S1 → 25 * d ≤ bc → 170 * d ≤ bs → e_Run tb_X4_init post e_no 76 [some (aR 0 0), some (aI (nI k))] [] S1 bc bs := by
    intro d
    induction d with
    | zero =>
      intro k hk S1 i0 i1 bc bs hne hK _ _
      obtain rfl : k = 6 := by omega
      refine e_walk (stops := []) 20 ?_
      exact And.intro (fun _ => h S1 i0 i1 hne hK) (fun c => absurd (by decide) c)
    | succ d ih =>
      intro k hk S1 i0 i1 bc bs hne hK hbc hbs
      refine e_walk (stops := [86]) 20 ?_
      refine And.intro (fun c => absurd c (nI_ge (a := k) (b := 6) (by omega) (by decide))) (fun _ => ?_)
      show e_Run tb_X4_init post e_no 86 [some (aR 0 0), some (aI (nI k))] [aO (mR S1 0 0 3)] S1 bc bs
      rw [show mR S1 0 0 3 = some (8, 0) from (hK.2.2.2.1 _ (q_Rs_3 k (by omega))).2]
      refine e_walk (stops := [90]) 20 ?_
      have hL : ∀ q, q ∈ q_Lf → q.1 = 0 ∨ 8 ≤ q.1 := by decide
      refine ⟨1, 2 + k, ⟨rfl, by decide, (hK.freshb (a := 0) hL).1, by omega, by show 17 ≤ bs; omega⟩, fun a => ?_⟩
      refine e_walk (stops := [94]) 20 ?_
      refine And.intro (by omega) (And.intro (by show 153 ≤ bs - 17; omega) ?_)
      refine q_X0_init (fun j => q_nw_eq (S := S1) (a := a)) (hK.freshb (a := a) hL).2 (fun S2 hj => ?_)
      have K2 := hK.band hj
      refine e_walk (stops := [76]) 20 ?_
      refine And.intro (q_in (n := k) (L := 6) rfl (by omega) (by decide)) (And.intro (fun q z => by cases z) ?_)
      show e_Run tb_X4_init post e_no 76 [some (aR 0 0), some (aI (nI k + 1))] [] (sR S2 8 0 (nI k).toNatClampNeg (some (1, 2 + k))) (bc - 1 - 24) (bs - 17 - 153)
      rw [nI_clamp (by omega), nI_1]
      exact ih (k + 1) (by omega) _ i0 i1 _ _ hne (K2.r (by decide) (q_Rs_no k (by omega))) (by omega) (by omega)
  have s6 : ∀ S1 i1, q_K S [(9, 0), (10, 1), (12, 0), (8, 0), (0, 0)] 2 [((0, 0, 6), (9, 0)), ((0, 0, 5), (12, 0)), ((12, 0, 0), (10, 1)), ((0, 0, 3), (8, 0)), ((0, 0, 1), (1, 1)), ((0, 0, 0), (1, 0))] [(1, i1)] S1 → e_Run tb_X4_init post e_no 63 [some (aR 0 0), none] [] S1 152 1040 := fun S1 i1 hK => by
    refine e_walk (stops := [67]) 20 ?_
    refine ⟨10, 0, ⟨rfl, by decide, hK.fresh (by decide) (by decide) (fun c hc z => by unfold q_bn at z; omega), by decide, by decide⟩, fun a => ?_⟩
    have K2 := hK.nw (k := 10) (i := 0) (a := a) (by decide) (by decide) (fun t ht => by rw [List.mem_singleton] at ht; subst ht; exact ⟨fun z => absurd (show (0 : Nat) = 1 from z.2) (by decide), fun z => absurd z.1 (by decide)⟩)
    have hz : ∀ j, mI (e_nw S1 10 0 a) 10 0 j = 0 := fun j => q_nw_eq (S := S1) (a := a)
    generalize e_nw S1 10 0 a = S3 at *
    refine e_walk (stops := [71]) 20 ?_
    refine And.intro (by decide) (And.intro (by decide) ?_)
    refine q_J4_init (c := i1) hz (fun S4 i0 e eP hne t => ?_)
    have K3 := K2.bld e eP t (fun t ht => by rw [List.mem_singleton] at ht; subst ht; exact ⟨(by decide : (1 : Nat) ≠ 0), fun z => hne z.symm⟩)
    refine e_walk (stops := [76]) 20 ?_
    refine And.intro (fun q z => by cases z) ?_
    exact loop 6 0 rfl _ i0 i1 _ _ hne (K3.r (by decide) (by decide)) (by decide) (by decide)
  have s5 : ∀ S1 i1, q_K S [(10, 1), (12, 0), (8, 0), (0, 0)] 2 [((0, 0, 5), (12, 0)), ((12, 0, 0), (10, 1)), ((0, 0, 3), (8, 0)), ((0, 0, 1), (1, 1)), ((0, 0, 0), (1, 0))] [(1, i1)] S1 → e_Run tb_X4_init post e_no 56 [some (aR 0 0), none] [] S1 153 1044 := fun S1 i1 hK => by
    refine e_walk (stops := [60]) 20 ?_
    refine ⟨9, 0, ⟨by decide, by decide, rfl, by decide, rfl, hK.fresh (by decide) (by decide) (fun c hc z => by unfold q_bn at z; omega), by decide, by decide⟩, fun a => ?_⟩
    have K2 := hK.nw (k := 9) (i := 0) (a := a) (by decide) (by decide) (fun t ht => ⟨fun z => absurd z.1 (by decide), fun z => absurd z.1 (by decide)⟩)
    generalize e_nw S1 9 0 a = S3 at *
    refine e_walk (stops := [63]) 20 ?_
    refine And.intro (fun q z => by cases z) ?_
    exact s6 _ i1 (K2.r (by decide) (by decide))
  have s4 : ∀ S1, q_K S [(8, 0), (0, 0)] 2 [((0, 0, 3), (8, 0)), ((0, 0, 1), (1, 1)), ((0, 0, 0), (1, 0))] [] S1 → e_Run tb_X4_init post e_no 45 [some (aR 0 0), none] [] S1 156 1065 := fun S1 hK => by
    refine e_walk (stops := [49]) 20 ?_
    refine ⟨12, 0, ⟨rfl, by decide, hK.fresh (by decide) (by decide) (fun c hc z => by unfold q_bn at z; omega), by decide, by decide⟩, fun a => ?_⟩
    have K2 := hK.nw (k := 12) (i := 0) (a := a) (by decide) (by decide) (fun t ht => absurd ht List.not_mem_nil)
    generalize e_nw S1 12 0 a = S3 at *
    refine e_walk (stops := [53]) 20 ?_
    refine And.intro (by decide) (And.intro (by decide) ?_)
    refine q_X3_init K2 (by decide) (by decide) (fun S4 i1 K3 => ?_)
    refine e_walk (stops := [56]) 20 ?_
    refine And.intro (fun q z => by cases z) ?_
    exact s5 _ i1 (K3.r (by decide) (by decide))
  have s3 : ∀ S1, q_K S [(0, 0)] 2 [((0, 0, 1), (1, 1)), ((0, 0, 0), (1, 0))] [] S1 → e_Run tb_X4_init post e_no 26 [some (aR 0 0), none] [] S1 157 1071 := fun S1 hK => by
    refine e_walk (stops := [37]) 20 ?_
    refine And.intro ⟨rfl, rfl⟩ ?_
    have hK := hK.z (j := 2)
    generalize sI S1 0 0 2 0 = S7 at *
    refine ⟨8, 0, ⟨by decide, by decide, rfl, by decide, rfl, hK.fresh (by decide) (by decide) (fun c hc z => by unfold q_bn at z; omega), by decide, by decide⟩, fun a => ?_⟩
    have K2 := hK.nw (k := 8) (i := 0) (a := a) (by decide) (by decide) (fun t ht => absurd ht List.not_mem_nil)
    generalize e_nw S7 8 0 a = S3 at *
    refine e_walk (stops := [45]) 20 ?_
    refine And.intro (fun q z => by cases z) ?_
    exact s4 _ ((K2.r (by decide) (by decide)).z)
  have s2 : ∀ S1, q_K S [(0, 0)] 1 [((0, 0, 0), (1, 0))] [] S1 → e_Run tb_X4_init post e_no 15 [some (aR 0 0), none] [] S1 182 1241 := fun S1 hK => by
    refine e_walk (stops := [19]) 20 ?_
    refine ⟨1, 1, ⟨rfl, by decide, (hK.freshb (a := 0) (by decide)).1, by decide, by decide⟩, fun a => ?_⟩
    refine e_walk (stops := [23]) 20 ?_
    refine And.intro (by decide) (And.intro (by decide) ?_)
    refine q_X0_init (fun j => q_nw_eq (S := S1) (a := a)) (hK.freshb (a := a) (by decide)).2 (fun S2 hj => ?_)
    have K2 := hK.band hj
    refine e_walk (stops := [26]) 20 ?_
    refine And.intro (fun q z => by cases z) ?_
    exact s3 _ (K2.r (by decide) (by decide))
  refine e_walk (stops := [8]) 20 ?_
  refine ⟨1, 0, ⟨rfl, by decide, (K0.freshb (a := 0) (by decide)).1, by decide, by decide⟩, fun a => ?_⟩
  refine e_walk (stops := [12]) 20 ?_
  refine And.intro (by decide) (And.intro (by decide) ?_)
  refine q_X0_init (fun j => q_nw_eq (S := S) (a := a)) (K0.freshb (a := a) (by decide)).2 (fun S2 hj => ?_)
  have K2 := K0.band hj
  refine e_walk (stops := [15]) 20 ?_
  refine And.intro (fun q z => by cases z) ?_
  exact s2 _ (K2.r (by decide) (by decide))
end Made4
