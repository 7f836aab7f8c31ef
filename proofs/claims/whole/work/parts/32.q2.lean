/-! What walks come to, 2: calls of the reference. Own work. -/
-- the reference's calls
def q_M (S : eM) (v : qV) (sv : Nat → qV) (sn : Nat) (sp : qV) (tk : Bool) (tx : Nat → Int32) (ln : Nat) : Prop :=
  (mI S 14 0 = v ∧ sn ≤ 6 ∧ ln ≤ 60) ∧ mI S 13 0 2 = nI sn ∧ (∀ k, k < sn → ∀ j, j < 146 → mI S 14 1 (146 * k + j) = sv k j) ∧ mI S 13 0 4 = cond tk 1 0 ∧ (tk = true → ∀ j, j < 146 → mI S 14 2 j = sp j) ∧ mI S 13 0 7 = nI ln ∧ ∀ j, j < ln → mI S 14 4 j = tx j
def q_fm (S S2 : eM) : Prop := (∀ k i, k ≠ 13 → k ≠ 14 → mI S2 k i = mI S k i) ∧ mR S2 = mR S ∧ ∀ k i, k ≠ 13 → mL S2 k i = mL S k i
theorem q_fm.rf {S : eM} : q_fm S S := ⟨fun _ _ _ _ => rfl, rfl, fun _ _ _ => rfl⟩
theorem q_fm.trans {S S1 S2 : eM} (h : q_fm S S1) (k : q_fm S1 S2) : q_fm S S2 := ⟨fun a b h1 h2 => (k.1 a b h1 h2).trans (h.1 a b h1 h2), k.2.1.trans h.2.1, fun a b h1 => (k.2.2 a b h1).trans (h.2.2 a b h1)⟩
theorem q_fm.of1 {S S2 : eM} {i0 : Nat} (h : q_fr1 i0 S S2) : q_fm S S2 := ⟨fun k i _ h2 => h.1 k i (fun z => h2 z.1), h.2.1, fun _ _ _ => by rw [h.2.2]⟩
theorem q_fm.of14 {S S2 : eM} (h : q_fr14 S S2) : q_fm S S2 := ⟨fun k i _ h2 => h.1 k i (fun z => h2 z.1), h.2.1, fun _ _ _ => by rw [h.2.2]⟩
theorem q_fm.ofs {S S2 : eM} (h : q_frs S S2) : q_fm S S2 := ⟨fun k i h1 h2 => funext fun j => h.1 k i j (fun z => h1 z.1) (fun z => h2 z.1), h.2.1, fun _ _ _ => by rw [h.2.2]⟩
theorem q_fm.fld {S : eM} {j : Nat} {x : Int32} : q_fm S (sI S 13 0 j x) := ⟨fun k i h1 _ => e_u3_ne (fun z => h1 (congrArg Prod.fst z)), rfl, fun _ _ _ => rfl⟩
section RefCalls
variable {S S2 : eM} {v v2 sp : qV} {sv : Nat → qV} {sn ln : Nat} {tk : Bool} {tx : Nat → Int32}
theorem q_M.eqv (h : q_M S v sv sn sp tk tx ln) : mI S 14 0 = v := h.1.1
theorem q_M.fld (h : q_M S v sv sn sp tk tx ln) {j : Nat} {x : Int32} (h1 : j ≠ 2) (h2 : j ≠ 4) (h3 : j ≠ 7) : q_M (sI S 13 0 j x) v sv sn sp tk tx ln := by
  obtain ⟨a, b, c, d, e, f, g⟩ := h
  exact ⟨a, by rw [q_sI, if_neg (fun z => h1 z.symm)]; exact b, c, by rw [q_sI, if_neg (fun z => h2 z.symm)]; exact d, e, by rw [q_sI, if_neg (fun z => h3 z.symm)]; exact f, g⟩
theorem q_M.of0 (h : q_M S v sv sn sp tk tx ln) (f : q_fr1 0 S S2) (e2 : mI S2 14 0 = v2) : q_M S2 v2 sv sn sp tk tx ln := by
  obtain ⟨a, b, c, d, e, g, i⟩ := h
  exact ⟨⟨e2, a.2⟩, by rw [f.1 13 0 (by decide)]; exact b, by rw [f.1 14 1 (by decide)]; exact c, by rw [f.1 13 0 (by decide)]; exact d, by rw [f.1 14 2 (by decide)]; exact e, by rw [f.1 13 0 (by decide)]; exact g, by rw [f.1 14 4 (by decide)]; exact i⟩
theorem q_M.of5 (h : q_M S v sv sn sp tk tx ln) (f : q_fr1 5 S S2) : q_M S2 v sv sn sp tk tx ln := by
  obtain ⟨a, b, c, d, e, g, i⟩ := h
  exact ⟨⟨by rw [f.1 14 0 (by decide)]; exact a.1, a.2⟩, by rw [f.1 13 0 (by decide)]; exact b, by rw [f.1 14 1 (by decide)]; exact c, by rw [f.1 13 0 (by decide)]; exact d, by rw [f.1 14 2 (by decide)]; exact e, by rw [f.1 13 0 (by decide)]; exact g, by rw [f.1 14 4 (by decide)]; exact i⟩
theorem q_M.of14 (h : q_M S v sv sn sp tk tx ln) (f : q_fr14 S S2) (e2 : mI S2 14 0 = v2) : q_M S2 v2 sv sn sp tk tx ln := by
  obtain ⟨a, b, c, d, e, g, i⟩ := h
  exact ⟨⟨e2, a.2⟩, by rw [f.1 13 0 (by decide)]; exact b, by rw [f.1 14 1 (by decide)]; exact c, by rw [f.1 13 0 (by decide)]; exact d, by rw [f.1 14 2 (by decide)]; exact e, by rw [f.1 13 0 (by decide)]; exact g, by rw [f.1 14 4 (by decide)]; exact i⟩
theorem q_M.save (h : q_M S v sv sn sp tk tx ln) (f : q_frs S S2) (h2 : mI S2 13 0 2 = nI (min sn 5 + 1)) (h3 : ∀ k, k < min sn 5 + 1 → ∀ j, j < 146 → mI S2 14 1 (146 * k + j) = q_sv sv sn (mI S 14 0) k j) : q_M S2 v (q_sv sv sn v) (min sn 5 + 1) sp tk tx ln := by
  obtain ⟨a, b, c, d, e, g, i⟩ := h
  rw [a.1] at h3
  refine ⟨⟨?_, by omega, a.2.2⟩, h2, h3, by rw [f.1 13 0 4 (by decide) (by decide)]; exact d, fun ht j hj => by rw [f.1 14 2 j (by omega) (by omega)]; exact e ht j hj, by rw [f.1 13 0 7 (by decide) (by decide)]; exact g, fun j hj => by rw [f.1 14 4 j (by omega) (by omega)]; exact i j hj⟩
  rw [← a.1]
  exact funext fun j => f.1 14 0 j (by omega) (by omega)
theorem q_M_save {post : eQ} (h : q_M S v sv sn sp tk tx ln) (hp : ∀ S2, q_fm S S2 → mI S2 13 0 8 = mI S 13 0 8 → q_M S2 v (q_sv sv sn v) (min sn 5 + 1) sp tk tx ln → post none S2) : w_X5_save [aR 13 0] S post :=
  q_X5_save h.2.1 h.1.2.1 h.2.2.1 (fun S2 f h2 h3 => hp S2 (q_fm.ofs f) (f.1 13 0 8 (by decide) (by decide)) (h.save f h2 h3))
/-- behind a call that may be refused (e): its answer and the row -/
def q_aft (S : eM) (v : qV) (sv : Nat → qV) (sn : Nat) (sp : qV) (tk : Bool) (tx : Nat → Int32) (ln : Nat) (post : eQ) (e : Nat) (r : Int32) (v2 : qV) : Prop :=
  (e ≠ 0 → ∀ S2, q_fm S S2 → q_M S2 v sv sn sp tk tx ln → mI S2 13 0 8 = nI e → post (some (aI 0)) S2) ∧
  (e = 0 → ∀ S2, q_fm S S2 → q_M S2 v2 (q_sv sv sn v) (min sn 5 + 1) sp tk tx ln → mI S2 13 0 8 = 0 → post (some (aI r)) S2)
theorem q_nI0 {e : Nat} (h : e < 65536) : decide (nI e = 0) = decide (e = 0) := decide_eq_decide.mpr ⟨fun z => (nI_eq (by omega) (by decide)).mp z, fun z => by rw [z]; rfl⟩
def q_lendE (v : qV) (np ni : Nat) (x y : Int32) : Nat := cond (q_ix x ni && q_ix y np) (if 0 < q_whyLoan v x.toNatClampNeg y.toNatClampNeg then 2 else 0) 1
theorem q_nIpos {n : Nat} (h : n < 65536) : nI n ≤ 0 ↔ ¬ 0 < n := by
  rcases Nat.eq_zero_or_pos n with rfl | z
  · exact ⟨fun _ => by decide, fun _ => by decide⟩
  · exact ⟨fun c => absurd c (nI_nle z (by omega)), fun c => absurd z c⟩
theorem q_whyLoan_le (v : qV) (i p : Nat) : q_whyLoan v i p ≤ 5 := by
  unfold q_whyLoan
  split
  · decide
  · split
    · decide
    · split
      · decide
      · split
        · decide
        · split <;> decide
theorem q_X5_lendError {post : eQ} {np ni : Nat} {x y : Int32} (hv : q_ok0 (mI S 14 0) np ni) (h : post (some (aI (nI (q_lendE (mI S 14 0) np ni x y)))) S) : w_X5_lendError [aR 13 0, aI x, aI y] S post := by
  unfold q_lendE at h
  have hnp := hv.1
  have hni := hv.2.1
  refine e_walk (stops := [5]) 20 ?_
  refine q_X5_isInstrument hv ?_
  refine e_walk (stops := [13]) 20 ?_
  cases z1 : q_ix x ni with
  | false =>
    rw [z1] at h
    exact And.intro (fun c => h) (fun c => absurd rfl c)
  | true =>
    rw [z1, Bool.true_and] at h
    refine And.intro (fun c => absurd c (by decide)) (fun c => ?_)
    refine q_X5_isPupil hv ?_
    refine e_walk (stops := [26]) 20 ?_
    cases z2 : q_ix y np with
    | false =>
      rw [z2] at h
      exact And.intro (fun c => h) (fun c => absurd rfl c)
    | true =>
      rw [z2] at h
      refine And.intro (fun c => absurd c (by decide)) (fun c => ?_)
      obtain ⟨i, hi, rfl⟩ := q_ix_of (by omega) z1
      obtain ⟨p, hp, rfl⟩ := q_ix_of (by omega) z2
      rw [nI_clamp (by omega), nI_clamp (by omega)] at h
      refine q_X5_reasonOfLoan (by omega) (by omega) ?_
      have hb := q_whyLoan_le (mI S 14 0) i p
      refine e_walk (stops := []) 20 ?_
      refine And.intro (fun c => ?_) (fun c => ?_)
      · rw [if_neg ((q_nIpos (by omega)).mp c)] at h
        exact h
      · rw [if_pos (Decidable.byContradiction fun z => c ((q_nIpos (by omega)).mpr z))] at h
        exact h
theorem q_lendE_ok {np ni : Nat} {x y : Int32} (hnp : np ≤ 10) (hni : ni ≤ 10) (h : q_lendE v np ni x y = 0) : ∃ i p, i < ni ∧ p < np ∧ x = nI i ∧ y = nI p ∧ q_whyLoan v i p = 0 := by
  unfold q_lendE at h
  cases z1 : q_ix x ni with
  | false => rw [z1] at h; exact absurd (show (1 : Nat) = 0 from h) (by decide)
  | true =>
    cases z2 : q_ix y np with
    | false => rw [z1, z2] at h; exact absurd (show (1 : Nat) = 0 from h) (by decide)
    | true =>
      rw [z1, z2] at h
      obtain ⟨i, hi, rfl⟩ := q_ix_of (by omega) z1
      obtain ⟨p, hp, rfl⟩ := q_ix_of (by omega) z2
      rw [nI_clamp (by omega), nI_clamp (by omega)] at h
      refine ⟨i, p, hi, hp, rfl, rfl, ?_⟩
      by_cases z : 0 < q_whyLoan v i p
      · rw [if_pos z] at h; exact absurd h (by decide)
      · omega
theorem q_X5_lend {post : eQ} {np ni nl : Nat} {x y : Int32} (hM : q_M S v sv sn sp tk tx ln) (hv : q_ok0 v np ni) (hl2 : v 2 = nI nl) (hl : q_lendE v np ni x y = 0 → nl < 10) (h : q_aft S v sv sn sp tk tx ln post (q_lendE v np ni x y) (nI (nl + 1)) (q_lend v nl x.toNatClampNeg y.toNatClampNeg)) : w_X5_lend [aR 13 0, aI x, aI y] S post := by
  have hv0 : q_ok0 (mI S 14 0) np ni := by rw [hM.eqv]; exact hv
  refine e_walk (stops := [7]) 20 ?_
  refine q_X5_lendError hv0 ?_
  rw [hM.eqv]
  refine e_walk (stops := [10]) 20 ?_
  refine q_X5_holds ?_
  have hle : q_lendE v np ni x y < 65536 := by
    unfold q_lendE
    cases q_ix x ni && q_ix y np with
    | false => exact (by decide : 1 < 65536)
    | true => show (if _ then 2 else 0) < _; split <;> decide
  rw [q_nI0 hle]
  have f1 : q_fm S (sI S 13 0 8 (nI (q_lendE v np ni x y))) := q_fm.fld
  have m1 : q_M (sI S 13 0 8 (nI (q_lendE v np ni x y))) v sv sn sp tk tx ln := hM.fld (by decide) (by decide) (by decide)
  have t1 : mI (sI S 13 0 8 (nI (q_lendE v np ni x y))) 13 0 8 = nI (q_lendE v np ni x y) := by rw [q_sI, if_pos rfl]
  refine e_walk (stops := [19]) 20 ?_
  by_cases z : q_lendE v np ni x y = 0
  · obtain ⟨i, p, hi, hp, rfl, rfl, -⟩ := q_lendE_ok hv.1 hv.2.1 z
    have hnp := hv.1
    have hni := hv.2.1
    rw [nI_clamp (by omega), nI_clamp (by omega)] at h
    generalize sI S 13 0 8 (nI (q_lendE v np ni (nI i) (nI p))) = S1 at f1 m1 t1 ⊢
    rw [z] at t1 ⊢
    refine And.intro (fun c => absurd c (by decide)) (fun c => ?_)
    refine q_M_save m1 (fun S2 f2 t2 m2 => ?_)
    refine e_walk (stops := [25]) 20 ?_
    refine q_X5_doLend (nl := nl) (by omega) (by omega) (hl z) (by rw [m2.eqv]; exact hl2) (fun S3 f3 e3 => ?_)
    refine e_walk (stops := []) 5 ?_
    rw [m2.eqv] at e3
    exact h.2 z S3 ((f1.trans f2).trans (q_fm.of1 f3)) (m2.of0 f3 e3) (by rw [f3.1 13 0 (by decide), t2, t1]; rfl)
  · rw [decide_eq_false z]
    refine And.intro (fun c => ?_) (fun c => absurd rfl c)
    exact h.1 z _ f1 m1 t1
end RefCalls
section RefCalls2
variable {S S2 : eM} {v v2 sp : qV} {sv : Nat → qV} {sn ln : Nat} {tk : Bool} {tx : Nat → Int32}
/-- the last call's error laid down -/
theorem q_M_holds {post : eQ} {e : Nat} (hM : q_M S v sv sn sp tk tx ln) (he : e < 65536) (h : ∀ S1, q_fm S S1 → q_M S1 v sv sn sp tk tx ln → mI S1 13 0 8 = nI e → post (some (aI (cond (decide (e = 0)) 1 0))) S1) : w_X5_holds [aR 13 0, aI (nI e)] S post := by
  refine q_X5_holds ?_
  rw [q_nI0 he]
  exact h _ q_fm.fld (hM.fld (by decide) (by decide) (by decide)) (by rw [q_sI, if_pos rfl])
def q_backE (v : qV) (ni : Nat) (x : Int32) : Nat := cond (q_ix x ni) (if q_its v x.toNatClampNeg 2 = 0 then 2 else 0) 1
theorem q_X5_backError {post : eQ} {np ni : Nat} {x : Int32} (hv : q_ok0 (mI S 14 0) np ni) (h : post (some (aI (nI (q_backE (mI S 14 0) ni x)))) S) : w_X5_backError [aR 13 0, aI x] S post := by
  unfold q_backE at h
  have hni := hv.2.1
  refine e_walk (stops := [5]) 20 ?_
  refine q_X5_isInstrument hv ?_
  refine e_walk (stops := [18]) 20 ?_
  cases z1 : q_ix x ni with
  | false =>
    rw [z1] at h
    exact And.intro (fun c => h) (fun c => absurd rfl c)
  | true =>
    rw [z1] at h
    refine And.intro (fun c => absurd c (by decide)) (fun c => ?_)
    obtain ⟨i, hi, rfl⟩ := q_ix_of (by omega) z1
    rw [nI_clamp (by omega)] at h
    refine q_X5_its (w := 2) (by omega) (by decide) ?_
    refine e_walk (stops := []) 20 ?_
    refine And.intro (fun c => ?_) (fun c => ?_)
    · rw [if_pos (show q_its (mI S 14 0) i 2 = 0 from c)] at h
      exact h
    · rw [if_neg (show ¬ q_its (mI S 14 0) i 2 = 0 from c)] at h
      exact h
theorem q_backE_lt {ni : Nat} {x : Int32} : q_backE v ni x < 65536 := by
  unfold q_backE
  cases q_ix x ni with
  | false => exact (by decide : 1 < 65536)
  | true => show (if _ then 2 else 0) < _; split <;> decide
theorem q_X5_back {post : eQ} {np ni nl : Nat} {x : Int32} (hM : q_M S v sv sn sp tk tx ln) (hv : q_ok0 v np ni) (hl2 : v 2 = nI nl) (hl : nl ≤ 10) (hlt : ∀ i, i < ni → ∃ l, l ≤ 10 ∧ q_its v i 2 = nI l) (h : q_aft S v sv sn sp tk tx ln post (q_backE v ni x) (v 13 * q_its v x.toNatClampNeg 4) (q_back v nl x.toNatClampNeg ((q_its v x.toNatClampNeg 2).toNatClampNeg - 1))) : w_X5_back [aR 13 0, aI x] S post := by
  have hv0 : q_ok0 (mI S 14 0) np ni := by rw [hM.eqv]; exact hv
  have hni := hv.2.1
  refine e_walk (stops := [6]) 20 ?_
  refine q_X5_backError hv0 ?_
  rw [hM.eqv]
  refine e_walk (stops := [9]) 20 ?_
  refine q_M_holds hM q_backE_lt (fun S1 f1 m1 t1 => ?_)
  refine e_walk (stops := [18]) 20 ?_
  by_cases z : q_backE v ni x = 0
  · rw [z] at t1 ⊢
    have z' := z
    unfold q_backE at z
    cases z1 : q_ix x ni with
    | false => rw [z1] at z; exact absurd (show (1 : Nat) = 0 from z) (by decide)
    | true =>
      rw [z1] at z
      obtain ⟨i, hi, rfl⟩ := q_ix_of (by omega) z1
      rw [nI_clamp (by omega)] at z h
      obtain ⟨l, hl1, hl3⟩ := hlt i hi
      have hl0 : 0 < l := Nat.pos_of_ne_zero (fun y => by
        rw [hl3, y] at z
        exact absurd (show (2 : Nat) = 0 from z) (by decide))
      rw [hl3, nI_clamp (by omega)] at h
      refine And.intro (fun c => absurd c (by decide)) (fun c => ?_)
      refine q_M_save m1 (fun S2 f2 t2 m2 => ?_)
      refine e_walk (stops := [23]) 20 ?_
      refine q_X5_doBack (p := l - 1) (nl := nl) (by omega) (by omega) hl (by rw [m2.eqv]; exact hl2) (by rw [m2.eqv, hl3]; congr 1; omega) (fun S3 f3 e3 => ?_)
      rw [m2.eqv] at e3 ⊢
      refine e_walk (stops := []) 5 ?_
      exact h.2 z' S3 ((f1.trans f2).trans (q_fm.of1 f3)) (m2.of0 f3 e3) (by rw [f3.1 13 0 (by decide), t2, t1]; rfl)
  · rw [decide_eq_false z]
    refine And.intro (fun c => ?_) (fun c => absurd rfl c)
    exact h.1 z _ f1 m1 t1
def q_mendE (v : qV) (ni : Nat) (x : Int32) : Nat := cond (q_ix x ni) (if 0 < q_its v x.toNatClampNeg 2 then 2 else 0) 1
theorem q_X5_mendError {post : eQ} {np ni : Nat} {x : Int32} (hv : q_ok0 (mI S 14 0) np ni) (h : post (some (aI (nI (q_mendE (mI S 14 0) ni x)))) S) : w_X5_mendError [aR 13 0, aI x] S post := by
  unfold q_mendE at h
  have hni := hv.2.1
  refine e_walk (stops := [5]) 20 ?_
  refine q_X5_isInstrument hv ?_
  refine e_walk (stops := [18]) 20 ?_
  cases z1 : q_ix x ni with
  | false =>
    rw [z1] at h
    exact And.intro (fun c => h) (fun c => absurd rfl c)
  | true =>
    rw [z1] at h
    refine And.intro (fun c => absurd c (by decide)) (fun c => ?_)
    obtain ⟨i, hi, rfl⟩ := q_ix_of (by omega) z1
    rw [nI_clamp (by omega)] at h
    refine q_X5_its (w := 2) (by omega) (by decide) ?_
    refine e_walk (stops := []) 20 ?_
    refine And.intro (fun c => ?_) (fun c => ?_)
    · rw [if_neg (Int32.not_lt.mpr c)] at h
      exact h
    · rw [if_pos (Int32.not_le.mp c)] at h
      exact h
theorem q_mendE_lt {ni : Nat} {x : Int32} : q_mendE v ni x < 65536 := by
  unfold q_mendE
  cases q_ix x ni with
  | false => exact (by decide : 1 < 65536)
  | true => show (if _ then 2 else 0) < _; split <;> decide
theorem q_X5_mend {post : eQ} {np ni : Nat} {x : Int32} (hM : q_M S v sv sn sp tk tx ln) (hv : q_ok0 v np ni) (h : q_aft S v sv sn sp tk tx ln post (q_mendE v ni x) (15 * q_its v x.toNatClampNeg 1) (q_mend v x.toNatClampNeg)) : w_X5_mend [aR 13 0, aI x] S post := by
  have hv0 : q_ok0 (mI S 14 0) np ni := by rw [hM.eqv]; exact hv
  have hni := hv.2.1
  refine e_walk (stops := [6]) 20 ?_
  refine q_X5_mendError hv0 ?_
  rw [hM.eqv]
  refine e_walk (stops := [9]) 20 ?_
  refine q_M_holds hM q_mendE_lt (fun S1 f1 m1 t1 => ?_)
  refine e_walk (stops := [18]) 20 ?_
  by_cases z : q_mendE v ni x = 0
  · rw [z] at t1 ⊢
    have z' := z
    unfold q_mendE at z
    cases z1 : q_ix x ni with
    | false => rw [z1] at z; exact absurd (show (1 : Nat) = 0 from z) (by decide)
    | true =>
      obtain ⟨i, hi, rfl⟩ := q_ix_of (by omega) z1
      rw [nI_clamp (by omega)] at h
      refine And.intro (fun c => absurd c (by decide)) (fun c => ?_)
      refine q_M_save m1 (fun S2 f2 t2 m2 => ?_)
      refine e_walk (stops := [23]) 20 ?_
      refine q_X5_doMend (by omega) (fun S3 f3 e3 => ?_)
      rw [m2.eqv] at e3 ⊢
      refine e_walk (stops := []) 5 ?_
      exact h.2 z' S3 ((f1.trans f2).trans (q_fm.of1 f3)) (m2.of0 f3 e3) (by rw [f3.1 13 0 (by decide), t2, t1]; rfl)
  · rw [decide_eq_false z]
    refine And.intro (fun c => ?_) (fun c => absurd rfl c)
    exact h.1 z _ f1 m1 t1
def q_teachE (v : qV) (np : Nat) (x y : Int32) : Nat := cond (q_ix x np && q_ix y 3) (if 0 < q_whyLesson v x.toNatClampNeg y.toNatClampNeg then 2 else 0) 1
theorem q_whyLesson_le (v : qV) (p t : Nat) : q_whyLesson v p t ≤ 4 := by
  unfold q_whyLesson
  split
  · decide
  · split
    · decide
    · split
      · decide
      · split <;> decide
theorem q_X5_teachError {post : eQ} {np ni : Nat} {x y : Int32} (hv : q_ok0 (mI S 14 0) np ni) (h : post (some (aI (nI (q_teachE (mI S 14 0) np x y)))) S) : w_X5_teachError [aR 13 0, aI x, aI y] S post := by
  unfold q_teachE at h
  have hnp := hv.1
  refine e_walk (stops := [5]) 20 ?_
  refine q_X5_isPupil hv ?_
  refine e_walk (stops := [12]) 20 ?_
  cases z1 : q_ix x np with
  | false =>
    rw [z1] at h
    exact And.intro (fun c => h) (fun c => absurd rfl c)
  | true =>
    rw [z1, Bool.true_and] at h
    refine And.intro (fun c => absurd c (by decide)) (fun c => ?_)
    refine q_X5_isTeacher ?_
    refine e_walk (stops := [25]) 20 ?_
    cases z2 : q_ix y 3 with
    | false =>
      rw [z2] at h
      exact And.intro (fun c => h) (fun c => absurd rfl c)
    | true =>
      rw [z2] at h
      refine And.intro (fun c => absurd c (by decide)) (fun c => ?_)
      obtain ⟨p, hp, rfl⟩ := q_ix_of (by omega) z1
      obtain ⟨t, ht, rfl⟩ := q_ix_of (by omega) z2
      rw [nI_clamp (by omega), nI_clamp (by omega)] at h
      refine q_X5_reasonOfLesson hv hp ?_
      have hb := q_whyLesson_le (mI S 14 0) p t
      refine e_walk (stops := []) 20 ?_
      refine And.intro (fun c => ?_) (fun c => ?_)
      · rw [if_neg ((q_nIpos (by omega)).mp c)] at h
        exact h
      · rw [if_pos (Decidable.byContradiction fun z => c ((q_nIpos (by omega)).mpr z))] at h
        exact h
theorem q_teachE_lt {np : Nat} {x y : Int32} : q_teachE v np x y < 65536 := by
  unfold q_teachE
  cases q_ix x np && q_ix y 3 with
  | false => exact (by decide : 1 < 65536)
  | true => show (if _ then 2 else 0) < _; split <;> decide
theorem q_teachE_ok {np : Nat} {x y : Int32} (hnp : np ≤ 10) (h : q_teachE v np x y = 0) : ∃ p t, p < np ∧ t < 3 ∧ x = nI p ∧ y = nI t ∧ q_whyLesson v p t = 0 := by
  unfold q_teachE at h
  cases z1 : q_ix x np with
  | false => rw [z1] at h; exact absurd (show (1 : Nat) = 0 from h) (by decide)
  | true =>
    cases z2 : q_ix y 3 with
    | false => rw [z1, z2] at h; exact absurd (show (1 : Nat) = 0 from h) (by decide)
    | true =>
      rw [z1, z2] at h
      obtain ⟨i, hi, rfl⟩ := q_ix_of (by omega) z1
      obtain ⟨p, hp, rfl⟩ := q_ix_of (by omega) z2
      rw [nI_clamp (by omega), nI_clamp (by omega)] at h
      refine ⟨i, p, hi, hp, rfl, rfl, ?_⟩
      by_cases z : 0 < q_whyLesson v i p
      · have h : (if 0 < q_whyLesson v i p then 2 else 0) = 0 := h
        rw [if_pos z] at h; exact absurd h (by decide)
      · omega
theorem q_whyLesson_0 {p t : Nat} (h : q_whyLesson v p t = 0) : q_plays v p = true := by
  unfold q_whyLesson at h
  cases z : q_plays v p with
  | true => rfl
  | false => rw [if_pos z] at h; exact absurd h (by decide)
theorem q_X5_teach {post : eQ} {np ni : Nat} {x y : Int32} (hM : q_M S v sv sn sp tk tx ln) (hv : q_ok0 v np ni) (h : q_aft S v sv sn sp tk tx ln post (q_teachE v np x y) (q_of v x.toNatClampNeg 2 + 1) (q_teach v x.toNatClampNeg y.toNatClampNeg)) : w_X5_teach [aR 13 0, aI x, aI y] S post := by
  have hv0 : q_ok0 (mI S 14 0) np ni := by rw [hM.eqv]; exact hv
  have hnp := hv.1
  refine e_walk (stops := [7]) 20 ?_
  refine q_X5_teachError hv0 ?_
  rw [hM.eqv]
  refine e_walk (stops := [10]) 20 ?_
  refine q_M_holds hM q_teachE_lt (fun S1 f1 m1 t1 => ?_)
  refine e_walk (stops := [19]) 20 ?_
  by_cases z : q_teachE v np x y = 0
  · obtain ⟨p, t, hp, ht, rfl, rfl, hw⟩ := q_teachE_ok hv.1 z
    rw [nI_clamp (by omega), nI_clamp (by omega)] at h
    rw [z] at t1 ⊢
    refine And.intro (fun c => absurd c (by decide)) (fun c => ?_)
    refine q_M_save m1 (fun S2 f2 t2 m2 => ?_)
    refine e_walk (stops := [25]) 20 ?_
    refine q_X5_doTeach (np := np) (ni := ni) (by rw [m2.eqv]; exact hv) hp ht (by rw [m2.eqv]; exact q_plays_pos (q_whyLesson_0 hw)) (fun S3 f3 e3 => ?_)
    rw [m2.eqv] at e3 ⊢
    refine e_walk (stops := []) 5 ?_
    exact h.2 z S3 ((f1.trans f2).trans (q_fm.of1 f3)) (m2.of0 f3 e3) (by rw [f3.1 13 0 (by decide), t2, t1]; rfl)
  · rw [decide_eq_false z]
    refine And.intro (fun c => ?_) (fun c => absurd rfl c)
    exact h.1 z _ f1 m1 t1
def q_marchE (v : qV) (x : Int32) : Nat := cond (q_ix x 4) (cond (q_sun v && decide (¬ v 4 = 1)) 0 2) 1
theorem q_X5_marchError {post : eQ} {x : Int32} (h : post (some (aI (nI (q_marchE (mI S 14 0) x)))) S) : w_X5_marchError [aR 13 0, aI x] S post := by
  unfold q_marchE at h
  refine e_walk (stops := [4]) 20 ?_
  refine q_X5_isMarch ?_
  refine e_walk (stops := [15]) 20 ?_
  cases z1 : q_ix x 4 with
  | false =>
    rw [z1] at h
    exact And.intro (fun c => h) (fun c => absurd rfl c)
  | true =>
    rw [z1] at h
    refine And.intro (fun c => absurd c (by decide)) (fun c => ?_)
    refine q_X5_isSunday ?_
    refine e_walk (stops := []) 20 ?_
    cases z2 : q_sun (mI S 14 0) with
    | false =>
      rw [z2] at h
      exact And.intro (fun c => h) (fun c => absurd rfl c)
    | true =>
      rw [z2, Bool.true_and] at h
      refine And.intro (fun c => absurd c (by decide)) (fun c => ?_)
      refine And.intro (fun c => ?_) (fun c => ?_)
      · rw [decide_eq_false (show ¬ ¬ mI S 14 0 4 = 1 from fun y => y c)] at h
        exact h
      · rw [decide_eq_true (show ¬ mI S 14 0 4 = 1 from c)] at h
        exact h
theorem q_marchE_lt {x : Int32} : q_marchE v x < 65536 := by
  unfold q_marchE
  cases q_ix x 4 with
  | false => exact (by decide : 1 < 65536)
  | true =>
    cases (q_sun v && decide (¬ v 4 = 1)) with
    | false => exact (by decide : 2 < 65536)
    | true => exact (by decide : 0 < 65536)
theorem q_X5_march {post : eQ} {np ni : Nat} {x : Int32} (hM : q_M S v sv sn sp tk tx ln) (hv : q_ok0 v np ni) (h : q_aft S v sv sn sp tk tx ln post (q_marchE v x) (nI (q_sh v x.toNatClampNeg np 4)) (q_march v x.toNatClampNeg np)) : w_X5_march [aR 13 0, aI x] S post := by
  refine e_walk (stops := [6]) 20 ?_
  refine q_X5_marchError ?_
  rw [hM.eqv]
  refine e_walk (stops := [9]) 20 ?_
  refine q_M_holds hM q_marchE_lt (fun S1 f1 m1 t1 => ?_)
  refine e_walk (stops := [18]) 20 ?_
  by_cases z : q_marchE v x = 0
  · rw [z] at t1 ⊢
    have z' := z
    unfold q_marchE at z
    cases z1 : q_ix x 4 with
    | false => rw [z1] at z; exact absurd (show (1 : Nat) = 0 from z) (by decide)
    | true =>
      obtain ⟨m, hm, rfl⟩ := q_ix_of (by omega) z1
      rw [nI_clamp (by omega)] at h
      refine And.intro (fun c => absurd c (by decide)) (fun c => ?_)
      refine q_M_save m1 (fun S2 f2 t2 m2 => ?_)
      refine e_walk (stops := [23]) 20 ?_
      refine q_X5_doMarch (np := np) (ni := ni) (by rw [m2.eqv]; exact hv) hm (fun S3 f3 e3 => ?_)
      rw [m2.eqv] at e3 ⊢
      refine e_walk (stops := []) 5 ?_
      exact h.2 z' S3 ((f1.trans f2).trans (q_fm.of14 f3)) (m2.of14 f3 e3) (by rw [f3.1 13 0 (by decide), t2, t1]; rfl)
  · rw [decide_eq_false z]
    refine And.intro (fun c => ?_) (fun c => absurd rfl c)
    exact h.1 z _ f1 m1 t1
end RefCalls2
section RefCalls3
variable {S S2 : eM} {v v2 sp : qV} {sv : Nat → qV} {sn ln : Nat} {tk : Bool} {tx : Nat → Int32}
/-- a number from lo to hi -/
def q_rg (lo hi x : Int32) : Bool := decide (¬ x < lo) && decide (¬ hi < x)
def q_dentE (ni : Nat) (x y : Int32) : Nat := cond (q_ix x ni) (cond (q_rg 1 9 y) 0 2) 1
theorem q_dentE_lt {ni : Nat} {x y : Int32} : q_dentE ni x y < 65536 := by
  unfold q_dentE
  cases q_ix x ni <;> cases q_rg 1 9 y <;> decide
theorem q_X5_dent {post : eQ} {np ni : Nat} {x y : Int32} (hM : q_M S v sv sn sp tk tx ln) (hv : q_ok0 v np ni) (h : q_aft S v sv sn sp tk tx ln post (q_dentE ni x y) (q_dn v x.toNatClampNeg y) (q_dents v x.toNatClampNeg y)) : w_X5_dent [aR 13 0, aI x, aI y] S post := by
  have hv0 : q_ok0 (mI S 14 0) np ni := by rw [hM.eqv]; exact hv
  have hni := hv.2.1
  have fin : ∀ e : Nat, e = q_dentE ni x y → e_Run tb_X5_dent post e_no 28 [some (aR 13 0), some (aI x), some (aI y)] [aI (nI e), aR 13 0] S 0 0 := by
    intro e he
    refine e_walk (stops := [31]) 1 ?_
    refine q_M_holds hM (by rw [he]; exact q_dentE_lt) (fun S1 f1 m1 t1 => ?_)
    rw [he] at t1 ⊢
    refine e_walk (stops := [40]) 20 ?_
    by_cases z : q_dentE ni x y = 0
    · rw [z] at t1 ⊢
      have z' := z
      unfold q_dentE at z
      cases z1 : q_ix x ni with
      | false => rw [z1] at z; exact absurd (show (1 : Nat) = 0 from z) (by decide)
      | true =>
        obtain ⟨i, hi, rfl⟩ := q_ix_of (by omega) z1
        rw [nI_clamp (by omega)] at h
        refine And.intro (fun c => absurd c (by decide)) (fun c => ?_)
        refine q_M_save m1 (fun S2 f2 t2 m2 => ?_)
        refine e_walk (stops := [46]) 20 ?_
        refine q_X5_dents (by omega) (fun S3 f3 e3 => ?_)
        rw [m2.eqv] at e3
        refine e_walk (stops := [52]) 20 ?_
        refine q_X5_its (w := 1) (by omega) (by decide) ?_
        have e4 : q_its (mI S3 14 0) i 1 = q_dn v i y := by rw [q_its, e3, q_dents, q_un (by omega), q_ue]
        rw [e4]
        refine e_walk (stops := []) 5 ?_
        exact h.2 z' S3 ((f1.trans f2).trans (q_fm.of1 f3)) (m2.of0 f3 e3) (by rw [f3.1 13 0 (by decide), t2, t1]; rfl)
    · rw [decide_eq_false z]
      refine And.intro (fun c => ?_) (fun c => absurd rfl c)
      exact h.1 z _ f1 m1 t1
  refine e_walk (stops := [6]) 20 ?_
  refine q_X5_isInstrument hv0 ?_
  refine e_walk (stops := [20, 28]) 20 ?_
  cases z1 : q_ix x ni with
  | false => exact And.intro (fun c => fin 1 (by unfold q_dentE; rw [z1]; rfl)) (fun c => absurd rfl c)
  | true =>
    refine And.intro (fun c => absurd c (by decide)) (fun c => ?_)
    refine q_X5_in ?_
    refine e_walk (stops := [28]) 20 ?_
    cases z2 : (decide (¬ y < 1) && decide (¬ (9 : Int32) < y)) with
    | false => exact And.intro (fun c => fin 2 (by unfold q_dentE q_rg; rw [z1, z2]; rfl)) (fun c => absurd rfl c)
    | true => exact And.intro (fun c => absurd c (by decide)) (fun c => fin 0 (by unfold q_dentE q_rg; rw [z1, z2]; rfl))
def q_payE (np : Nat) (x y : Int32) : Nat := cond (q_ix x np) (cond (q_rg 1 999 y) 0 2) 1
theorem q_payE_lt {np : Nat} {x y : Int32} : q_payE np x y < 65536 := by
  unfold q_payE
  cases q_ix x np <;> cases q_rg 1 999 y <;> decide
def q_pays (v : qV) (p : Nat) (y : Int32) : Int32 := if y < q_of v p 3 then y else q_of v p 3
def q_pay (v : qV) (p : Nat) (y : Int32) : qV := upd (upd (upd v (16 + 7 * p + 3) (q_of v p 3 - q_pays v p y)) 10 (v 10 + q_pays v p y)) 8 (v 8 + q_pays v p y)
theorem q_X5_pay {post : eQ} {np ni : Nat} {x y : Int32} (hM : q_M S v sv sn sp tk tx ln) (hv : q_ok0 v np ni) (h : q_aft S v sv sn sp tk tx ln post (q_payE np x y) (q_pays v x.toNatClampNeg y) (q_pay v x.toNatClampNeg y)) : w_X5_pay [aR 13 0, aI x, aI y] S post := by
  have hv0 : q_ok0 (mI S 14 0) np ni := by rw [hM.eqv]; exact hv
  have hnp := hv.1
  have fin : ∀ e : Nat, e = q_payE np x y → e_Run tb_X5_pay post e_no 29 [some (aR 13 0), some (aI x), some (aI y), none] [aI (nI e), aR 13 0] S 0 0 := by
    intro e he
    refine e_walk (stops := [32]) 1 ?_
    refine q_M_holds hM (by rw [he]; exact q_payE_lt) (fun S1 f1 m1 t1 => ?_)
    rw [he] at t1 ⊢
    refine e_walk (stops := [41]) 20 ?_
    by_cases z : q_payE np x y = 0
    · rw [z] at t1 ⊢
      have z' := z
      unfold q_payE at z
      cases z1 : q_ix x np with
      | false => rw [z1] at z; exact absurd (show (1 : Nat) = 0 from z) (by decide)
      | true =>
        obtain ⟨p, hp, rfl⟩ := q_ix_of (by omega) z1
        rw [nI_clamp (by omega)] at h
        refine And.intro (fun c => absurd c (by decide)) (fun c => ?_)
        refine q_M_save m1 (fun S2 f2 t2 m2 => ?_)
        have hp10 : p < 10 := by omega
        have fin2 : ∀ w, w = q_pays v p y → e_Run tb_X5_pay post e_no 61 [some (aR 13 0), some (aI (nI p)), some (aI y), none] [aI w] S2 0 0 := by
          intro w hw
          refine e_walk (stops := [71]) 20 ?_
          refine q_X5_of (w := 3) hp10 (by decide) ?_
          rw [m2.eqv]
          refine e_walk (stops := [76]) 20 ?_
          refine q_X5_put (w := 3) hp10 (by decide) ?_
          generalize hA : sI S2 14 0 (16 + 7 * p + 3) ((fun a b => a - b) (q_of v p 3) w) = A
          have eA : mI A 14 0 = upd v (16 + 7 * p + 3) (q_of v p 3 - w) := by rw [← hA, e_updI, m2.eqv]
          have fA : q_fr1 0 S2 A := by rw [← hA]; exact q_fr1.rf.set
          have c10 : ((10 : Int32)).toNatClampNeg = 10 := by decide
          have c8 : ((8 : Int32)).toNatClampNeg = 8 := by decide
          refine e_walk (stops := []) 40 ?_
          refine And.intro (show vp_in 10 146 from q_in (n := 10) rfl (by decide) (by decide)) (And.intro (show vp_in 10 146 from q_in (n := 10) rfl (by decide) (by decide)) ?_)
          refine And.intro (show vp_in 8 146 from q_in (n := 8) rfl (by decide) (by decide)) (And.intro (show vp_in 8 146 from q_in (n := 8) rfl (by decide) (by decide)) ?_)
          rw [c10, c8]
          have rA : mI A 14 0 10 = v 10 := by rw [eA]; exact q_un (by omega)
          generalize hB : sI A 14 0 10 (mI A 14 0 10 + w) = B
          have eB : mI B 14 0 = upd (mI A 14 0) 10 (v 10 + w) := by rw [← hB, e_updI, rA]
          have fB : q_fr1 0 S2 B := by rw [← hB]; exact fA.set
          have rB : mI B 14 0 8 = v 8 := by rw [eB, q_un (by decide), eA]; exact q_un (by omega)
          show post (some (aI w)) (sI B 14 0 8 (mI B 14 0 8 + w))
          rw [rB, hw]
          rw [← hw] at h ⊢
          have fC : q_fr1 0 S2 (sI B 14 0 8 (v 8 + w)) := fB.set
          refine h.2 z' _ ((f1.trans f2).trans (q_fm.of1 fC)) (m2.of0 fC ?_) (by rw [fC.1 13 0 (by decide), t2, t1]; rfl)
          rw [e_updI, eB, eA, q_pay, hw]
        refine e_walk (stops := [48]) 20 ?_
        refine q_X5_of (w := 3) hp10 (by decide) ?_
        rw [m2.eqv]
        refine e_walk (stops := [61]) 20 ?_
        refine And.intro (fun c => ?_) (fun c => ?_)
        · refine q_X5_of (w := 3) hp10 (by decide) ?_
          rw [m2.eqv]
          exact fin2 _ (by unfold q_pays; rw [if_neg (Int32.not_lt.mpr c)])
        · exact fin2 _ (by unfold q_pays; rw [if_pos (Int32.not_le.mp c)])
    · rw [decide_eq_false z]
      refine And.intro (fun c => ?_) (fun c => absurd rfl c)
      exact h.1 z _ f1 m1 t1
  refine e_walk (stops := [6]) 20 ?_
  refine q_X5_isPupil hv0 ?_
  refine e_walk (stops := [21, 29]) 20 ?_
  cases z1 : q_ix x np with
  | false => exact And.intro (fun c => fin 1 (by unfold q_payE; rw [z1]; rfl)) (fun c => absurd rfl c)
  | true =>
    refine And.intro (fun c => absurd c (by decide)) (fun c => ?_)
    refine q_X5_in ?_
    refine e_walk (stops := [29]) 20 ?_
    cases z2 : (decide (¬ y < 1) && decide (¬ (999 : Int32) < y)) with
    | false => exact And.intro (fun c => fin 2 (by unfold q_payE q_rg; rw [z1, z2]; rfl)) (fun c => absurd rfl c)
    | true => exact And.intro (fun c => absurd c (by decide)) (fun c => fin 0 (by unfold q_payE q_rg; rw [z1, z2]; rfl))
def q_passE (x : Int32) : Nat := cond (q_rg 1 30 x) 0 1
theorem q_passE_lt {x : Int32} : q_passE x < 65536 := by
  unfold q_passE
  cases q_rg 1 30 x <;> decide
theorem q_X5_pass {post : eQ} {np ni : Nat} {x : Int32} (hM : q_M S v sv sn sp tk tx ln) (hv : q_ok0 v np ni) (h : q_aft S v sv sn sp tk tx ln post (q_passE x) (v 3 + x) (q_ps v x np)) : w_X5_pass [aR 13 0, aI x] S post := by
  have fin : ∀ e : Nat, e = q_passE x → e_Run tb_X5_pass post e_no 16 [some (aR 13 0), some (aI x)] [aI (nI e), aR 13 0] S 0 0 := by
    intro e he
    refine e_walk (stops := [19]) 1 ?_
    refine q_M_holds hM (by rw [he]; exact q_passE_lt) (fun S1 f1 m1 t1 => ?_)
    rw [he] at t1 ⊢
    refine e_walk (stops := [28]) 20 ?_
    by_cases z : q_passE x = 0
    · rw [z] at t1 ⊢
      refine And.intro (fun c => absurd c (by decide)) (fun c => ?_)
      refine q_M_save m1 (fun S2 f2 t2 m2 => ?_)
      refine e_walk (stops := [33]) 20 ?_
      refine q_X5_doPass (np := np) (ni := ni) (by rw [m2.eqv]; exact hv) (fun S3 f3 e3 => ?_)
      rw [m2.eqv] at e3 ⊢
      refine e_walk (stops := []) 5 ?_
      exact h.2 z S3 ((f1.trans f2).trans (q_fm.of1 f3)) (m2.of0 f3 e3) (by rw [f3.1 13 0 (by decide), t2, t1]; rfl)
    · rw [decide_eq_false z]
      refine And.intro (fun c => ?_) (fun c => absurd rfl c)
      exact h.1 z _ f1 m1 t1
  refine e_walk (stops := [8]) 20 ?_
  refine q_X5_in ?_
  refine e_walk (stops := [16]) 20 ?_
  cases z2 : (decide (¬ x < 1) && decide (¬ (30 : Int32) < x)) with
  | false => exact And.intro (fun c => fin 1 (by unfold q_passE q_rg; rw [z2]; rfl)) (fun c => absurd rfl c)
  | true => exact And.intro (fun c => absurd c (by decide)) (fun c => fin 0 (by unfold q_passE q_rg; rw [z2]; rfl))
end RefCalls3
section RefCalls4
variable {S S2 : eM} {v v2 sp : qV} {sv : Nat → qV} {sn ln : Nat} {tk : Bool} {tx : Nat → Int32}
def q_pupilE (np : Nat) (x : Int32) : Nat := cond (q_rg 5 30 x) (cond (decide (np = 10)) 2 0) 1
theorem q_pupilE_lt {np : Nat} {x : Int32} : q_pupilE np x < 65536 := by
  unfold q_pupilE
  cases q_rg 5 30 x <;> cases decide (np = 10) <;> decide
def q_pupil (v : qV) (np : Nat) (x : Int32) : qV := upd (upd (upd (upd v (16 + 7 * np) x) (16 + 7 * np + 1) x) (16 + 7 * np + 2) 1) 0 (nI (np + 1))
theorem q_X5_pupil {post : eQ} {np ni : Nat} {x : Int32} (hM : q_M S v sv sn sp tk tx ln) (hv : q_ok0 v np ni) (h : q_aft S v sv sn sp tk tx ln post (q_pupilE np x) (nI np) (q_pupil v np x)) : w_X5_pupil [aR 13 0, aI x] S post := by
  have hnp := hv.1
  have fin : ∀ e : Nat, e = q_pupilE np x → e_Run tb_X5_pupil post e_no 31 [some (aR 13 0), some (aI x), none] [aI (nI e), aR 13 0] S 0 0 := by
    intro e he
    refine e_walk (stops := [34]) 1 ?_
    refine q_M_holds hM (by rw [he]; exact q_pupilE_lt) (fun S1 f1 m1 t1 => ?_)
    rw [he] at t1 ⊢
    refine e_walk (stops := [43]) 20 ?_
    by_cases z : q_pupilE np x = 0
    · rw [z] at t1 ⊢
      have z' := z
      unfold q_pupilE at z
      cases z1 : q_rg 5 30 x with
      | false => rw [z1] at z; exact absurd (show (1 : Nat) = 0 from z) (by decide)
      | true =>
        by_cases z2 : np = 10
        · rw [z1, decide_eq_true z2] at z; exact absurd (show (2 : Nat) = 0 from z) (by decide)
        · have hp10 : np < 10 := by omega
          refine And.intro (fun c => absurd c (by decide)) (fun c => ?_)
          refine q_M_save m1 (fun S2 f2 t2 m2 => ?_)
          refine e_walk (stops := [49]) 20 ?_
          show e_Run tb_X5_pupil post e_no 49 [some (aR 13 0), some (aI x), none] [aI (mI S2 14 0 0)] S2 0 0
          rw [m2.eqv, hv.2.2.1]
          refine e_walk (stops := [57]) 20 ?_
          refine q_X5_put (w := 0) hp10 (by decide) ?_
          refine e_walk (stops := [64]) 20 ?_
          refine q_X5_put (w := 1) hp10 (by decide) ?_
          refine e_walk (stops := [71]) 20 ?_
          refine q_X5_put (w := 2) hp10 (by decide) ?_
          generalize hA : sI (sI (sI S2 14 0 (16 + 7 * np + 0) x) 14 0 (16 + 7 * np + 1) x) 14 0 (16 + 7 * np + 2) 1 = A
          have eA : mI A 14 0 = upd (upd (upd v (16 + 7 * np) x) (16 + 7 * np + 1) x) (16 + 7 * np + 2) 1 := by rw [← hA, e_updI, e_updI, e_updI, m2.eqv]; rfl
          have fA : q_fr1 0 S2 A := by rw [← hA]; exact q_fr1.rf.set.set.set
          have rA : mI A 14 0 0 = nI np := by rw [eA, q_un (by omega), q_un (by omega), q_un (by omega)]; exact hv.2.2.1
          have c0 : ((0 : Int32)).toNatClampNeg = 0 := by decide
          refine e_walk (stops := []) 40 ?_
          refine And.intro (show vp_in 0 146 from q_in (n := 0) rfl (by decide) (by decide)) (And.intro (show vp_in 0 146 from q_in (n := 0) rfl (by decide) (by decide)) ?_)
          rw [c0]
          show post (some (aI (nI np))) (sI A 14 0 0 (mI A 14 0 0 + 1))
          rw [rA, nI_1]
          have fB : q_fr1 0 S2 (sI A 14 0 0 (nI (np + 1))) := fA.set
          refine h.2 z' _ ((f1.trans f2).trans (q_fm.of1 fB)) (m2.of0 fB ?_) (by rw [fB.1 13 0 (by decide), t2, t1]; rfl)
          rw [e_updI, eA, q_pupil]
    · rw [decide_eq_false z]
      refine And.intro (fun c => ?_) (fun c => absurd rfl c)
      exact h.1 z _ f1 m1 t1
  refine e_walk (stops := [8]) 20 ?_
  refine q_X5_in ?_
  refine e_walk (stops := [23, 31]) 20 ?_
  cases z1 : (decide (¬ x < 5) && decide (¬ (30 : Int32) < x)) with
  | false => exact And.intro (fun c => fin 1 (by unfold q_pupilE q_rg; rw [z1]; rfl)) (fun c => absurd rfl c)
  | true =>
    refine And.intro (fun c => absurd c (by decide)) (fun c => ?_)
    show e_Run tb_X5_pupil post e_no 23 [some (aR 13 0), some (aI x), none] [aI (nI 10), aI (mI S 14 0 0), aR 13 0] S 0 0
    rw [hM.eqv, hv.2.2.1]
    refine e_walk (stops := [31]) 20 ?_
    refine And.intro (fun c => fin 2 ?_) (fun c => fin 0 ?_)
    · unfold q_pupilE q_rg; rw [z1, decide_eq_true ((nI_eq (by omega) (by decide)).mp c)]; rfl
    · unfold q_pupilE q_rg; rw [z1, decide_eq_false (fun y => c (by rw [y]))]; rfl
def q_instE (ni : Nat) (x : Int32) : Nat := cond (q_rg 0 3 x) (cond (decide (ni = 10)) 2 0) 1
theorem q_instE_lt {ni : Nat} {x : Int32} : q_instE ni x < 65536 := by
  unfold q_instE
  cases q_rg 0 3 x <;> cases decide (ni = 10) <;> decide
def q_inst (v : qV) (ni : Nat) (x : Int32) : qV := upd (upd v (86 + 5 * ni) x) 1 (nI (ni + 1))
theorem q_X5_instrument {post : eQ} {np ni : Nat} {x : Int32} (hM : q_M S v sv sn sp tk tx ln) (hv : q_ok0 v np ni) (h : q_aft S v sv sn sp tk tx ln post (q_instE ni x) (nI ni) (q_inst v ni x)) : w_X5_instrument [aR 13 0, aI x] S post := by
  have hni := hv.2.1
  have fin : ∀ e : Nat, e = q_instE ni x → e_Run tb_X5_instrument post e_no 30 [some (aR 13 0), some (aI x)] [aI (nI e), aR 13 0] S 0 0 := by
    intro e he
    refine e_walk (stops := [33]) 1 ?_
    refine q_M_holds hM (by rw [he]; exact q_instE_lt) (fun S1 f1 m1 t1 => ?_)
    rw [he] at t1 ⊢
    refine e_walk (stops := [42]) 20 ?_
    by_cases z : q_instE ni x = 0
    · rw [z] at t1 ⊢
      have z' := z
      unfold q_instE at z
      cases z1 : q_rg 0 3 x with
      | false => rw [z1] at z; exact absurd (show (1 : Nat) = 0 from z) (by decide)
      | true =>
        by_cases z2 : ni = 10
        · rw [z1, decide_eq_true z2] at z; exact absurd (show (2 : Nat) = 0 from z) (by decide)
        · have hi10 : ni < 10 := by omega
          refine And.intro (fun c => absurd c (by decide)) (fun c => ?_)
          refine q_M_save m1 (fun S2 f2 t2 m2 => ?_)
          refine e_walk (stops := [49]) 20 ?_
          show e_Run tb_X5_instrument post e_no 49 [some (aR 13 0), some (aI x)] [aI (mI S2 14 0 1), aR 13 0] S2 0 0
          rw [m2.eqv, hv.2.2.2.1]
          refine e_walk (stops := [54]) 20 ?_
          refine q_X5_lay (w := 0) hi10 (by decide) ?_
          generalize hA : sI S2 14 0 (86 + 5 * ni + 0) x = A
          have eA : mI A 14 0 = upd v (86 + 5 * ni) x := by rw [← hA, e_updI, m2.eqv]; rfl
          have fA : q_fr1 0 S2 A := by rw [← hA]; exact q_fr1.rf.set
          have rA : mI A 14 0 1 = nI ni := by rw [eA, q_un (by omega)]; exact hv.2.2.2.1
          have c1 : ((1 : Int32)).toNatClampNeg = 1 := by decide
          refine e_walk (stops := [64]) 40 ?_
          refine And.intro (show vp_in 1 146 from q_in (n := 1) rfl (by decide) (by decide)) (And.intro (show vp_in 1 146 from q_in (n := 1) rfl (by decide) (by decide)) ?_)
          rw [c1]
          show e_Run tb_X5_instrument post e_no 64 [some (aR 13 0), some (aI x)] [] (sI A 14 0 1 (mI A 14 0 1 + 1)) 0 0
          rw [rA, nI_1]
          have fB : q_fr1 0 S2 (sI A 14 0 1 (nI (ni + 1))) := fA.set
          refine e_walk (stops := []) 40 ?_
          show post (some (aI (mI (sI A 14 0 1 (nI (ni + 1))) 14 0 1 - 1))) (sI A 14 0 1 (nI (ni + 1)))
          rw [e_updI, q_ue, nI_pred]
          refine h.2 z' _ ((f1.trans f2).trans (q_fm.of1 fB)) (m2.of0 fB ?_) (by rw [fB.1 13 0 (by decide), t2, t1]; rfl)
          rw [e_updI, eA, q_inst]
    · rw [decide_eq_false z]
      refine And.intro (fun c => ?_) (fun c => absurd rfl c)
      exact h.1 z _ f1 m1 t1
  refine e_walk (stops := [7]) 20 ?_
  refine q_X5_in ?_
  refine e_walk (stops := [22, 30]) 20 ?_
  cases z1 : (decide (¬ x < 0) && decide (¬ (3 : Int32) < x)) with
  | false => exact And.intro (fun c => fin 1 (by unfold q_instE q_rg; rw [z1]; rfl)) (fun c => absurd rfl c)
  | true =>
    refine And.intro (fun c => absurd c (by decide)) (fun c => ?_)
    show e_Run tb_X5_instrument post e_no 22 [some (aR 13 0), some (aI x)] [aI (nI 10), aI (mI S 14 0 1), aR 13 0] S 0 0
    rw [hM.eqv, hv.2.2.2.1]
    refine e_walk (stops := [30]) 20 ?_
    refine And.intro (fun c => fin 2 ?_) (fun c => fin 0 ?_)
    · unfold q_instE q_rg; rw [z1, decide_eq_true ((nI_eq (by omega) (by decide)).mp c)]; rfl
    · unfold q_instE q_rg; rw [z1, decide_eq_false (fun y => c (by rw [y]))]; rfl
/-- calls that lay no state by -/
def q_aft0 (S : eM) (v : qV) (sv : Nat → qV) (sn : Nat) (sp : qV) (tk : Bool) (tx : Nat → Int32) (ln : Nat) (post : eQ) (e : Nat) (r : Int32) (tx2 : Nat → Int32) (ln2 : Nat) : Prop :=
  (e ≠ 0 → ∀ S2, q_fm S S2 → q_M S2 v sv sn sp tk tx ln → mI S2 13 0 8 = nI e → post (some (aI 0)) S2) ∧
  (e = 0 → ∀ S2, q_fm S S2 → q_M S2 v sv sn sp tk tx2 ln2 → mI S2 13 0 8 = 0 → post (some (aI r)) S2)
def q_appE (ln : Nat) (x : Int32) : Nat := cond (q_rg 33 126 x) (cond (decide (ln = 60)) 2 0) 1
theorem q_appE_lt {x : Int32} : q_appE ln x < 65536 := by
  unfold q_appE
  cases q_rg 33 126 x <;> cases decide (ln = 60) <;> decide
theorem q_X5_append {post : eQ} {x : Int32} (hM : q_M S v sv sn sp tk tx ln) (h : q_aft0 S v sv sn sp tk tx ln post (q_appE ln x) (nI (ln + 1)) (upd tx ln x) (ln + 1)) : w_X5_append [aR 13 0, aI x] S post := by
  have hln := hM.1.2.2
  have fin : ∀ e : Nat, e = q_appE ln x → e_Run tb_X5_append post e_no 30 [some (aR 13 0), some (aI x)] [aI (nI e), aR 13 0] S 0 0 := by
    intro e he
    refine e_walk (stops := [33]) 1 ?_
    refine q_M_holds hM (by rw [he]; exact q_appE_lt) (fun S1 f1 m1 t1 => ?_)
    rw [he] at t1 ⊢
    refine e_walk (stops := [46]) 20 ?_
    by_cases z : q_appE ln x = 0
    · rw [z] at t1 ⊢
      have z' := z
      unfold q_appE at z
      cases z1 : q_rg 33 126 x with
      | false => rw [z1] at z; exact absurd (show (1 : Nat) = 0 from z) (by decide)
      | true =>
        by_cases z2 : ln = 60
        · rw [z1, decide_eq_true z2] at z; exact absurd (show (2 : Nat) = 0 from z) (by decide)
        · have hl60 : ln < 60 := by omega
          refine And.intro (fun c => absurd c (by decide)) (fun c => ?_)
          obtain ⟨a, b, cc, d, e9, g, i⟩ := m1
          show e_Run tb_X5_append post e_no 46 [some (aR 13 0), some (aI x)] [aI (mI S1 13 0 7), aR 14 4] S1 0 0
          rw [g]
          refine e_walk (stops := [48]) 20 ?_
          refine And.intro (q_in (n := ln) rfl (show ln < 60 from hl60) (by decide)) ?_
          show e_Run tb_X5_append post e_no 48 [some (aR 13 0), some (aI x)] [] (sI S1 14 4 (nI ln).toNatClampNeg x) 0 0
          rw [nI_clamp (by omega)]
          generalize hA : sI S1 14 4 ln x = A
          have fA : q_fr1 4 S1 A := by rw [← hA]; exact q_fr1.rf.set
          have eA : mI A 14 4 = upd (mI S1 14 4) ln x := by rw [← hA, e_updI]
          have gA : mI A 13 0 7 = nI ln := by rw [fA.1 13 0 (by decide)]; exact g
          refine e_walk (stops := [58]) 20 ?_
          show e_Run tb_X5_append post e_no 58 [some (aR 13 0), some (aI x)] [] (sI A 13 0 7 (mI A 13 0 7 + 1)) 0 0
          rw [gA, nI_1]
          refine e_walk (stops := []) 20 ?_
          show post (some (aI (mI (sI A 13 0 7 (nI (ln + 1))) 13 0 7))) (sI A 13 0 7 (nI (ln + 1)))
          rw [q_sI, if_pos rfl]
          have o : ∀ j, j ≠ 7 → mI (sI A 13 0 7 (nI (ln + 1))) 13 0 j = mI S1 13 0 j := fun j hj => by rw [q_sI, if_neg hj, fA.1 13 0 (by decide)]
          refine h.2 z' _ ((f1.trans (q_fm.of1 fA)).trans q_fm.fld) ⟨⟨?_, a.2.1, by omega⟩, ?_, fun k hk j hj => ?_, ?_, fun ht j hj => ?_, ?_, fun j hj => ?_⟩ ?_
          · show mI A 14 0 = v
            rw [fA.1 14 0 (by decide)]; exact a.1
          · rw [o 2 (by decide)]; exact b
          · show mI A 14 1 (146 * k + j) = _
            rw [fA.1 14 1 (by decide)]; exact cc k hk j hj
          · rw [o 4 (by decide)]; exact d
          · show mI A 14 2 j = _
            rw [fA.1 14 2 (by decide)]; exact e9 ht j hj
          · rw [q_sI, if_pos rfl]
          · show mI A 14 4 j = _
            rw [eA]
            by_cases y : j = ln
            · rw [y, q_ue, q_ue]
            · rw [q_un y, q_un y]
              exact i j (by omega)
          · rw [o 8 (by decide)]; exact t1
    · rw [decide_eq_false z]
      refine And.intro (fun c => ?_) (fun c => absurd rfl c)
      exact h.1 z _ f1 m1 t1
  refine e_walk (stops := [9]) 20 ?_
  refine q_X5_in ?_
  refine e_walk (stops := [22, 30]) 20 ?_
  cases z1 : (decide (¬ x < 33) && decide (¬ (126 : Int32) < x)) with
  | false => exact And.intro (fun c => fin 1 (by unfold q_appE q_rg; rw [z1]; rfl)) (fun c => absurd rfl c)
  | true =>
    refine And.intro (fun c => absurd c (by decide)) (fun c => ?_)
    show e_Run tb_X5_append post e_no 22 [some (aR 13 0), some (aI x)] [aI (nI 60), aI (mI S 13 0 7), aR 13 0] S 0 0
    rw [hM.2.2.2.2.2.1]
    refine e_walk (stops := [30]) 20 ?_
    refine And.intro (fun c => fin 2 ?_) (fun c => fin 0 ?_)
    · unfold q_appE q_rg; rw [z1, decide_eq_true ((nI_eq (by omega) (by decide)).mp c)]; rfl
    · unfold q_appE q_rg; rw [z1, decide_eq_false (fun y => c (by rw [y]))]; rfl
theorem q_X5_clearBuffer {post : eQ} (hM : q_M S v sv sn sp tk tx ln) (h : ∀ S2, q_fm S S2 → q_M S2 v sv sn sp tk tx 0 → mI S2 13 0 8 = 0 → post (some (aI (nI ln))) S2) : w_X5_clearBuffer [aR 13 0] S post := by
  obtain ⟨a, b, cc, d, e9, g, i⟩ := hM
  refine e_walk (stops := []) 20 ?_
  show post (some (aI (mI (sI S 13 0 8 0) 13 0 7))) (sI (sI S 13 0 8 0) 13 0 7 0)
  rw [q_sI, if_neg (by decide), g]
  have o : ∀ j, j ≠ 7 → j ≠ 8 → mI (sI (sI S 13 0 8 0) 13 0 7 0) 13 0 j = mI S 13 0 j := fun j h1 h2 => by rw [q_sI, if_neg h1, q_sI, if_neg h2]
  refine h _ (q_fm.fld.trans q_fm.fld) ⟨⟨a.1, a.2.1, by decide⟩, ?_, cc, ?_, e9, ?_, fun j hj => absurd hj (by omega)⟩ ?_
  · rw [o 2 (by decide) (by decide)]; exact b
  · rw [o 4 (by decide) (by decide)]; exact d
  · rw [q_sI, if_pos rfl]; rfl
  · rw [q_sI, if_neg (by decide), q_sI, if_pos rfl]
end RefCalls4
section RefCalls5
variable {S S2 : eM} {v v2 sp : qV} {sv : Nat → qV} {sn ln : Nat} {tk : Bool} {tx : Nat → Int32}
/-- a row gone back to -/
def q_cp (u v : qV) : qV := fun j => if j < 146 then u j else v j
def q_setE (x y : Int32) : Nat := cond (q_ix x 3) (cond (q_rg 0 (if x = 0 then 50 else if x = 1 then 200 else 99) y) 0 2) 1
theorem q_setE_lt {x y : Int32} : q_setE x y < 65536 := by
  unfold q_setE
  cases q_ix x 3 <;> cases q_rg 0 (if x = 0 then 50 else if x = 1 then 200 else 99) y <;> decide
theorem q_X5_set {post : eQ} {x y : Int32} (hM : q_M S v sv sn sp tk tx ln) (h : q_aft S v sv sn sp tk tx ln post (q_setE x y) (v (13 + x.toNatClampNeg)) (upd v (13 + x.toNatClampNeg) y)) : w_X5_set [aR 13 0, aI x, aI y] S post := by
  have fin : ∀ e : Nat, e = q_setE x y → ∀ b, e_Run tb_X5_set post e_no 51 [some (aR 13 0), some (aI x), some (aI y), some (aI b), none] [aI (nI e), aR 13 0] S 0 0 := by
    intro e he b
    refine e_walk (stops := [54]) 1 ?_
    refine q_M_holds hM (by rw [he]; exact q_setE_lt) (fun S1 f1 m1 t1 => ?_)
    rw [he] at t1 ⊢
    refine e_walk (stops := [63]) 20 ?_
    by_cases z : q_setE x y = 0
    · rw [z] at t1 ⊢
      have z' := z
      unfold q_setE at z
      cases z1 : q_ix x 3 with
      | false => rw [z1] at z; exact absurd (show (1 : Nat) = 0 from z) (by decide)
      | true =>
        obtain ⟨k, hk, rfl⟩ := q_ix_of (by omega) z1
        rw [nI_clamp (by omega)] at h
        refine And.intro (fun c => absurd c (by decide)) (fun c => ?_)
        refine q_M_save m1 (fun S2 f2 t2 m2 => ?_)
        have c1 : (nI 13 + nI k).toNatClampNeg = 13 + k := q_cl (nI_add 13 k) (by omega)
        refine e_walk (stops := [72]) 20 ?_
        refine And.intro (q_in (nI_add 13 k) (show 13 + k < 146 by omega) (by decide)) ?_
        show e_Run tb_X5_set post e_no 72 [some (aR 13 0), some (aI (nI k)), some (aI y), some (aI b), none] [aI (mI S2 14 0 (nI 13 + nI k).toNatClampNeg)] S2 0 0
        rw [c1, m2.eqv]
        refine e_walk (stops := []) 20 ?_
        refine And.intro (q_in (nI_add 13 k) (show 13 + k < 146 by omega) (by decide)) ?_
        show post (some (aI (v (13 + k)))) (sI S2 14 0 (nI 13 + nI k).toNatClampNeg y)
        rw [c1]
        have fB : q_fr1 0 S2 (sI S2 14 0 (13 + k) y) := q_fr1.rf.set
        exact h.2 z' _ ((f1.trans f2).trans (q_fm.of1 fB)) (m2.of0 fB (by rw [e_updI, m2.eqv])) (by rw [fB.1 13 0 (by decide), t2, t1]; rfl)
    · rw [decide_eq_false z]
      refine And.intro (fun c => ?_) (fun c => absurd rfl c)
      exact h.1 z _ f1 m1 t1
  have mid : ∀ b : Bool, b = q_rg 0 (if x = 0 then 50 else if x = 1 then 200 else 99) y → e_Run tb_X5_set post e_no 27 [some (aR 13 0), some (aI x), some (aI y), none, none] [aI (cond b 1 0)] S 0 0 := by
    intro b hb
    refine e_walk (stops := [35]) 20 ?_
    refine q_X5_in ?_
    rw [show (2 : Int32) = nI 3 - 1 by decide, q_hi (by decide), show (decide (¬ x < 0) && decide (x < nI 3)) = q_ix x 3 from rfl]
    refine e_walk (stops := [51]) 20 ?_
    cases z1 : q_ix x 3 with
    | false => exact And.intro (fun c => fin 1 (by unfold q_setE; rw [z1]; rfl) _) (fun c => absurd rfl c)
    | true =>
      refine And.intro (fun c => absurd c (by decide)) (fun c => ?_)
      cases b with
      | false => exact And.intro (fun c => fin 2 (by unfold q_setE; rw [z1, ← hb]; rfl) _) (fun c => absurd rfl c)
      | true => exact And.intro (fun c => absurd c (by decide)) (fun c => fin 0 (by unfold q_setE; rw [z1, ← hb]; rfl) _)
  refine e_walk (stops := [27]) 20 ?_
  refine And.intro (fun c => ?_) (fun c => ?_)
  · refine q_X5_in ?_
    exact mid _ (by rw [if_pos (show x = 0 from c)]; rfl)
  · refine And.intro (fun c2 => ?_) (fun c2 => ?_)
    · refine q_X5_in ?_
      exact mid _ (by rw [if_neg (show ¬ x = 0 from c), if_pos (show x = 1 from c2)]; rfl)
    · refine q_X5_in ?_
      exact mid _ (by rw [if_neg (show ¬ x = 0 from c), if_neg (show ¬ x = 1 from c2)]; rfl)
theorem q_X5_undo {post : eQ} (hM : q_M S v sv sn sp tk tx ln) (h0 : sn = 0 → ∀ S2, q_fm S S2 → q_M S2 v sv sn sp tk tx ln → mI S2 13 0 8 = 1 → post (some (aI 0)) S2)
    (h1 : 0 < sn → ∀ S2, q_fm S S2 → q_M S2 (q_cp (sv (sn - 1)) v) sv (sn - 1) sp tk tx ln → mI S2 13 0 8 = 0 → post (some (aI (nI (sn - 1)))) S2) : w_X5_undo [aR 13 0] S post := by
  have hsn := hM.1.2.1
  refine e_walk (stops := [5]) 20 ?_
  show e_Run tb_X5_undo post e_no 5 [some (aR 13 0)] [aI (mI S 13 0 2), aR 13 0] S 0 0
  rw [hM.2.1]
  refine e_walk (stops := [16]) 20 ?_
  refine And.intro (fun c => ?_) (fun c => ?_)
  · have z : sn = 0 := by have := (q_nIpos (by omega)).mp c; omega
    refine q_M_holds (e := 1) hM (by decide) (fun S1 f1 m1 t1 => ?_)
    refine e_walk (stops := []) 20 ?_
    exact And.intro (fun c => h0 z S1 f1 m1 t1) (fun c => absurd rfl c)
  · have z : 0 < sn := Decidable.byContradiction fun y => c ((q_nIpos (by omega)).mpr y)
    refine q_M_holds (e := 0) hM (by decide) (fun S1 f1 m1 t1 => ?_)
    obtain ⟨a, b, cc, d, e9, g, i⟩ := m1
    refine e_walk (stops := [27]) 20 ?_
    refine And.intro (fun c => absurd c (by decide)) (fun c => ?_)
    show e_Run tb_X5_undo post e_no 27 [some (aR 13 0)] [aI 1, aI (mI S1 13 0 2), aR 13 0] S1 0 0
    rw [b]
    refine e_walk (stops := [28]) 1 ?_
    show e_Run tb_X5_undo post e_no 28 [some (aR 13 0)] [aI (nI sn - 1), aR 13 0] S1 0 0
    rw [q_pred z]
    refine e_walk (stops := [42]) 20 ?_
    show e_Run tb_X5_undo post e_no 42 [some (aR 13 0)] [aI (mI (sI S1 13 0 2 (nI (sn - 1))) 13 0 2), aI (nI 146), aR 14 1] (sI S1 13 0 2 (nI (sn - 1))) 0 0
    rw [q_sI, if_pos rfl]
    refine e_walk (stops := [43]) 1 ?_
    show e_Run tb_X5_undo post e_no 43 [some (aR 13 0)] [aI (nI 146 * nI (sn - 1)), aR 14 1] (sI S1 13 0 2 (nI (sn - 1))) 0 0
    rw [nI_mul]
    refine e_walk (stops := [51]) 20 ?_
    refine q_X5_copy (x := 1) (y := 0) (f := 146 * (sn - 1)) (t := 0) (show 146 * (sn - 1) + 146 ≤ 876 by omega) (by decide) (by decide) (by omega) (by decide) (fun S3 g1 g2 g3 g4 => ?_)
    have o : ∀ j, j ≠ 2 → mI S3 13 0 j = mI S1 13 0 j := fun j hj => by rw [g1 13 0 (by decide), q_sI, if_neg hj]
    have o2 : mI S3 13 0 2 = nI (sn - 1) := by rw [g1 13 0 (by decide), q_sI, if_pos rfl]
    refine e_walk (stops := []) 20 ?_
    show post (some (aI (mI S3 13 0 2))) S3
    rw [o2]
    refine h1 z S3 (f1.trans ⟨fun k i y1 y2 => by rw [g1 k i (fun w => y2 w.1)]; exact e_u3_ne (fun w => y1 (congrArg Prod.fst w)), g2, fun _ _ _ => by rw [g3]⟩) ⟨⟨?_, by omega, a.2.2⟩, o2, fun k hk j hj => ?_, ?_, fun ht j hj => ?_, ?_, fun j hj => ?_⟩ ?_
    · funext j
      rw [g4 j]
      unfold q_cp
      by_cases hj : j < 146
      · rw [if_pos (by omega), if_pos hj]
        exact cc (sn - 1) (by omega) j hj
      · rw [if_neg (by omega), if_neg hj]
        exact congrFun a.1 j
    · rw [g1 14 1 (by decide)]; exact cc k (by omega) j hj
    · rw [o 4 (by decide)]; exact d
    · rw [g1 14 2 (by decide)]; exact e9 ht j hj
    · rw [o 7 (by decide)]; exact g
    · rw [g1 14 4 (by decide)]; exact i j hj
    · rw [o 8 (by decide)]; exact t1
theorem q_X5_keep {post : eQ} (hM : q_M S v sv sn sp tk tx ln) (h : ∀ S2, q_fm S S2 → q_M S2 v sv sn v true tx ln → mI S2 13 0 8 = 0 → post (some (aI (v 3))) S2) : w_X5_keep [aR 13 0] S post := by
  obtain ⟨a, b, cc, d, e9, g, i⟩ := hM
  refine e_walk (stops := [18]) 20 ?_
  refine q_X5_copy (x := 0) (y := 2) (f := 0) (t := 0) (by decide) (by decide) (by decide) (by decide) (by decide) (fun S3 g1 g2 g3 g4 => ?_)
  have o : ∀ j, j ≠ 8 → mI S3 13 0 j = mI S 13 0 j := fun j hj => by rw [g1 13 0 (by decide), q_sI, if_neg hj]
  have e3 : mI S3 14 0 = v := by rw [g1 14 0 (by decide)]; exact a.1
  refine e_walk (stops := []) 20 ?_
  refine And.intro (And.intro rfl rfl) ?_
  show post (some (aI (mI S3 14 0 3))) (sI S3 13 0 4 1)
  rw [e3]
  have p : ∀ j, j ≠ 4 → mI (sI S3 13 0 4 1) 13 0 j = mI S3 13 0 j := fun j hj => by rw [q_sI, if_neg hj]
  refine h _ (((q_fm.fld (j := 8) (x := 0)).trans ⟨fun k i y1 y2 => g1 k i (fun w => y2 w.1), g2, fun _ _ _ => by rw [g3]⟩).trans q_fm.fld) ⟨⟨e3, a.2⟩, ?_, fun k hk j hj => ?_, ?_, fun _ j hj => ?_, ?_, fun j hj => ?_⟩ ?_
  · rw [p 2 (by decide), o 2 (by decide)]; exact b
  · show mI S3 14 1 (146 * k + j) = _
    rw [g1 14 1 (by decide)]; exact cc k hk j hj
  · rw [q_sI, if_pos rfl]; rfl
  · show mI S3 14 2 j = _
    rw [g4 j, if_pos (by omega)]
    exact congrFun a.1 _ |>.trans (by rw [Nat.zero_add, Nat.sub_zero])
  · rw [p 7 (by decide), o 7 (by decide)]; exact g
  · show mI S3 14 4 j = _
    rw [g1 14 4 (by decide)]; exact i j hj
  · rw [p 8 (by decide), g1 13 0 (by decide), q_sI, if_pos rfl]
theorem q_X5_restore {post : eQ} (hM : q_M S v sv sn sp tk tx ln) (h0 : tk = false → ∀ S2, q_fm S S2 → q_M S2 v sv sn sp tk tx ln → mI S2 13 0 8 = 1 → post (some (aI 0)) S2)
    (h1 : tk = true → ∀ S2, q_fm S S2 → q_M S2 (q_cp sp v) (q_sv sv sn v) (min sn 5 + 1) sp tk tx ln → mI S2 13 0 8 = 0 → post (some (aI (sp 3))) S2) : w_X5_restore [aR 13 0] S post := by
  have htk := hM.2.2.2.1
  refine e_walk (stops := [5]) 20 ?_
  show e_Run tb_X5_restore post e_no 5 [some (aR 13 0)] [aI (mI S 13 0 4), aR 13 0] S 0 0
  rw [htk]
  refine e_walk (stops := [16]) 20 ?_
  cases tk with
  | false =>
    refine And.intro (fun c => ?_) (fun c => absurd rfl c)
    refine q_M_holds (e := 1) hM (by decide) (fun S1 f1 m1 t1 => ?_)
    refine e_walk (stops := []) 20 ?_
    exact And.intro (fun c => h0 rfl S1 f1 m1 t1) (fun c => absurd rfl c)
  | true =>
    refine And.intro (fun c => absurd c (by decide)) (fun c => ?_)
    refine q_M_holds (e := 0) hM (by decide) (fun S1 f1 m1 t1 => ?_)
    refine e_walk (stops := [25]) 20 ?_
    refine And.intro (fun c => absurd c (by decide)) (fun c => ?_)
    refine q_M_save m1 (fun S2 f2 t2 m2 => ?_)
    obtain ⟨a, b, cc, d, e9, g, i⟩ := m2
    refine e_walk (stops := [38]) 20 ?_
    refine q_X5_copy (x := 2) (y := 0) (f := 0) (t := 0) (by decide) (by decide) (by decide) (by decide) (by decide) (fun S3 g1 g2 g3 g4 => ?_)
    have e3 : mI S3 14 0 = q_cp sp v := by
      funext j
      rw [g4 j]
      unfold q_cp
      by_cases hj : j < 146
      · rw [if_pos (by omega), if_pos hj, Nat.zero_add, Nat.sub_zero]
        exact e9 rfl j hj
      · rw [if_neg (by omega), if_neg hj]
        exact congrFun a.1 j
    refine e_walk (stops := []) 20 ?_
    show post (some (aI (mI S3 14 0 3))) S3
    rw [e3]
    refine h1 rfl S3 ((f1.trans f2).trans ⟨fun k i y1 y2 => g1 k i (fun w => y2 w.1), g2, fun _ _ _ => by rw [g3]⟩) ⟨⟨e3, a.2⟩, ?_, fun k hk j hj => ?_, ?_, fun ht j hj => ?_, ?_, fun j hj => ?_⟩ ?_
    · rw [g1 13 0 (by decide)]; exact b
    · rw [g1 14 1 (by decide)]; exact cc k hk j hj
    · rw [g1 13 0 (by decide)]; exact d
    · rw [g1 14 2 (by decide)]; exact e9 ht j hj
    · rw [g1 13 0 (by decide)]; exact g
    · rw [g1 14 4 (by decide)]; exact i j hj
    · rw [g1 13 0 (by decide), t2, t1]; rfl
end RefCalls5
