/-! What walks come to, 2: calls of the reference. Own work. -/
-- the reference's calls
def q_M (S : eM) (v : qV) (sv : Nat → qV) (sn : Nat) (sp : qV) (tk : Bool) (tx : Nat → Int32) (ln : Nat) : Prop :=
  (mI S 14 0 = v ∧ sn ≤ 6 ∧ ln ≤ 60) ∧ mI S 13 0 2 = nI sn ∧ (∀ k, k < sn → ∀ j, j < 146 → mI S 14 1 (146 * k + j) = sv k j) ∧ mI S 13 0 4 = cond tk 1 0 ∧ (tk = true → ∀ j, j < 146 → mI S 14 2 j = sp j) ∧ mI S 13 0 7 = nI ln ∧ ∀ j, j < ln → mI S 14 4 j = tx j
def q_fm (S S2 : eM) : Prop := (∀ k i, k ≠ 13 → k ≠ 14 → mI S2 k i = mI S k i) ∧ mR S2 = mR S ∧ ∀ k i, k ≠ 13 → mL S2 k i = mL S k i
theorem q_fm.rf {S : eM} : q_fm S S := ⟨fun _ _ _ _ => rfl, rfl, fun _ _ _ => rfl⟩
theorem q_fm.trans {S S1 S2 : eM} (h : q_fm S S1) (k : q_fm S1 S2) : q_fm S S2 := ⟨fun a b h1 h2 => (k.1 a b h1 h2).trans (h.1 a b h1 h2), k.2.1.trans h.2.1, fun a b h1 => (k.2.2 a b h1).trans (h.2.2 a b h1)⟩
theorem q_fm.of1 {S S2 : eM} {i0 : Nat} (h : q_fr1 i0 S S2) : q_fm S S2 := ⟨fun k i _ h2 => h.1 k i (fun z => h2 z.1), h.2.1, fun _ _ _ => by rw [h.2.2]⟩
theorem q_fm.of14 {S S2 : eM} (h : q_fr14 S S2) : q_fm S S2 := ⟨fun k i _ h2 => h.1 k i (fun z => h2 z.1), h.2.1, fun _ _ _ => by rw [h.2.2]⟩
theorem q_fm.ofs {S S2 : eM} (h : q_frs S S2) : q_fm S S2 := ⟨fun k i h1 h2 => funext fun j => h.1 k i j (fun z => h1 z.1) (fun z => h2 z.1), h.2.1, fun _ _ _ => by rw [h.2.2]⟩
theorem q_fm.fld {S : eM} {j : Nat} {x : Int32} : q_fm S (sI S 13 0 j x) := ⟨fun k i h1 _ => e_u3_ne (fun z => h1 (congrArg Prod.fst z)), rfl, fun _ _ _ => rfl⟩
section RefCalls
variable {S S2 : eM} {v v2 sp : qV} {sv : Nat → qV} {sn ln : Nat} {tk : Bool} {tx : Nat → Int32}
theorem q_M.eqv (h : q_M S v sv sn sp tk tx ln) : mI S 14 0 = v := h.1.1
theorem q_M.fld (h : q_M S v sv sn sp tk tx ln) {j : Nat} {x : Int32} (h1 : j ≠ 2) (h2 : j ≠ 4) (h3 : j ≠ 7) : q_M (sI S 13 0 j x) v sv sn sp tk tx ln := by
  obtain ⟨a, b, c, d, e, f, g⟩ := h
  exact ⟨a, by rw [q_sI, if_neg (fun z => h1 z.symm)]; exact b, c, by rw [q_sI, if_neg (fun z => h2 z.symm)]; exact d, e, by rw [q_sI, if_neg (fun z => h3 z.symm)]; exact f, g⟩
theorem q_M.of0 (h : q_M S v sv sn sp tk tx ln) (f : q_fr1 0 S S2) (e2 : mI S2 14 0 = v2) : q_M S2 v2 sv sn sp tk tx ln := by
  obtain ⟨a, b, c, d, e, g, i⟩ := h
  exact ⟨⟨e2, a.2⟩, by rw [f.1 13 0 (by decide)]; exact b, by rw [f.1 14 1 (by decide)]; exact c, by rw [f.1 13 0 (by decide)]; exact d, by rw [f.1 14 2 (by decide)]; exact e, by rw [f.1 13 0 (by decide)]; exact g, by rw [f.1 14 4 (by decide)]; exact i⟩
theorem q_M.of5 (h : q_M S v sv sn sp tk tx ln) (f : q_fr1 5 S S2) : q_M S2 v sv sn sp tk tx ln := by
  obtain ⟨a, b, c, d, e, g, i⟩ := h
  exact ⟨⟨by rw [f.1 14 0 (by decide)]; exact a.1, a.2⟩, by rw [f.1 13 0 (by decide)]; exact b, by rw [f.1 14 1 (by decide)]; exact c, by rw [f.1 13 0 (by decide)]; exact d, by rw [f.1 14 2 (by decide)]; exact e, by rw [f.1 13 0 (by decide)]; exact g, by rw [f.1 14 4 (by decide)]; exact i⟩
theorem q_M.of14 (h : q_M S v sv sn sp tk tx ln) (f : q_fr14 S S2) (e2 : mI S2 14 0 = v2) : q_M S2 v2 sv sn sp tk tx ln := by
  obtain ⟨a, b, c, d, e, g, i⟩ := h
  exact ⟨⟨e2, a.2⟩, by rw [f.1 13 0 (by decide)]; exact b, by rw [f.1 14 1 (by decide)]; exact c, by rw [f.1 13 0 (by decide)]; exact d, by rw [f.1 14 2 (by decide)]; exact e, by rw [f.1 13 0 (by decide)]; exact g, by rw [f.1 14 4 (by decide)]; exact i⟩
theorem q_M.save (h : q_M S v sv sn sp tk tx ln) (f : q_frs S S2) (h2 : mI S2 13 0 2 = nI (min sn 5 + 1)) (h3 : ∀ k, k < min sn 5 + 1 → ∀ j, j < 146 → mI S2 14 1 (146 * k + j) = q_sv sv sn (mI S 14 0) k j) : q_M S2 v (q_sv sv sn v) (min sn 5 + 1) sp tk tx ln := by
  obtain ⟨a, b, c, d, e, g, i⟩ := h
  rw [a.1] at h3
  refine ⟨⟨?_, by omega, a.2.2⟩, h2, h3, by rw [f.1 13 0 4 (by decide) (by decide)]; exact d, fun ht j hj => by rw [f.1 14 2 j (by omega) (by omega)]; exact e ht j hj, by rw [f.1 13 0 7 (by decide) (by decide)]; exact g, fun j hj => by rw [f.1 14 4 j (by omega) (by omega)]; exact i j hj⟩
  rw [← a.1]
  exact funext fun j => f.1 14 0 j (by omega) (by omega)
/-- behind a call that may be refused (e): its answer and the row -/
def q_aft (S : eM) (v : qV) (sv : Nat → qV) (sn : Nat) (sp : qV) (tk : Bool) (tx : Nat → Int32) (ln : Nat) (post : eQ) (e : Nat) (r : Int32) (v2 : qV) : Prop :=
  (e ≠ 0 → ∀ S2, q_fm S S2 → q_M S2 v sv sn sp tk tx ln → mI S2 13 0 8 = nI e → post (some (aI 0)) S2) ∧
  (e = 0 → ∀ S2, q_fm S S2 → q_M S2 v2 (q_sv sv sn v) (min sn 5 + 1) sp tk tx ln → mI S2 13 0 8 = 0 → post (some (aI r)) S2)
theorem q_nI0 {e : Nat} (h : e < 65536) : decide (nI e = 0) = decide (e = 0) := decide_eq_decide.mpr ⟨fun z => (nI_eq (by omega) (by decide)).mp z, fun z => by rw [z]; rfl⟩
def q_lendE (v : qV) (np ni : Nat) (x y : Int32) : Nat := cond (q_ix x ni && q_ix y np) (if 0 < q_whyLoan v x.toNatClampNeg y.toNatClampNeg then 2 else 0) 1
theorem q_nIpos {n : Nat} (h : n < 65536) : nI n ≤ 0 ↔ ¬ 0 < n := by
  rcases Nat.eq_zero_or_pos n with rfl | z
  · exact ⟨fun _ => by decide, fun _ => by decide⟩
  · exact ⟨fun c => absurd c (nI_nle z (by omega)), fun c => absurd z c⟩
theorem q_whyLoan_le (v : qV) (i p : Nat) : q_whyLoan v i p ≤ 5 := by
  unfold q_whyLoan
  split
  · decide
  · split
    · decide
    · split
      · decide
      · split
        · decide
        · split <;> decide
theorem q_lendE_ok {np ni : Nat} {x y : Int32} (hnp : np ≤ 10) (hni : ni ≤ 10) (h : q_lendE v np ni x y = 0) : ∃ i p, i < ni ∧ p < np ∧ x = nI i ∧ y = nI p ∧ q_whyLoan v i p = 0 := by
  unfold q_lendE at h
  cases z1 : q_ix x ni with
  | false => rw [z1] at h; exact absurd (show (1 : Nat) = 0 from h) (by decide)
  | true =>
    cases z2 : q_ix y np with
    | false => rw [z1, z2] at h; exact absurd (show (1 : Nat) = 0 from h) (by decide)
    | true =>
      rw [z1, z2] at h
      obtain ⟨i, hi, rfl⟩ := q_ix_of (by omega) z1
      obtain ⟨p, hp, rfl⟩ := q_ix_of (by omega) z2
      rw [nI_clamp (by omega), nI_clamp (by omega)] at h
      refine ⟨i, p, hi, hp, rfl, rfl, ?_⟩
      by_cases z : 0 < q_whyLoan v i p
      · rw [if_pos z] at h; exact absurd h (by decide)
      · omega
end RefCalls
section RefCalls2
variable {S S2 : eM} {v v2 sp : qV} {sv : Nat → qV} {sn ln : Nat} {tk : Bool} {tx : Nat → Int32}
def q_backE (v : qV) (ni : Nat) (x : Int32) : Nat := cond (q_ix x ni) (if q_its v x.toNatClampNeg 2 = 0 then 2 else 0) 1
theorem q_backE_lt {ni : Nat} {x : Int32} : q_backE v ni x < 65536 := by
  unfold q_backE
  cases q_ix x ni with
  | false => exact (by decide : 1 < 65536)
  | true => show (if _ then 2 else 0) < _; split <;> decide
def q_mendE (v : qV) (ni : Nat) (x : Int32) : Nat := cond (q_ix x ni) (if 0 < q_its v x.toNatClampNeg 2 then 2 else 0) 1
theorem q_mendE_lt {ni : Nat} {x : Int32} : q_mendE v ni x < 65536 := by
  unfold q_mendE
  cases q_ix x ni with
  | false => exact (by decide : 1 < 65536)
  | true => show (if _ then 2 else 0) < _; split <;> decide
def q_teachE (v : qV) (np : Nat) (x y : Int32) : Nat := cond (q_ix x np && q_ix y 3) (if 0 < q_whyLesson v x.toNatClampNeg y.toNatClampNeg then 2 else 0) 1
theorem q_whyLesson_le (v : qV) (p t : Nat) : q_whyLesson v p t ≤ 4 := by
  unfold q_whyLesson
  split
  · decide
  · split
    · decide
    · split
      · decide
      · split <;> decide
theorem q_teachE_lt {np : Nat} {x y : Int32} : q_teachE v np x y < 65536 := by
  unfold q_teachE
  cases q_ix x np && q_ix y 3 with
  | false => exact (by decide : 1 < 65536)
  | true => show (if _ then 2 else 0) < _; split <;> decide
theorem q_teachE_ok {np : Nat} {x y : Int32} (hnp : np ≤ 10) (h : q_teachE v np x y = 0) : ∃ p t, p < np ∧ t < 3 ∧ x = nI p ∧ y = nI t ∧ q_whyLesson v p t = 0 := by
  unfold q_teachE at h
  cases z1 : q_ix x np with
  | false => rw [z1] at h; exact absurd (show (1 : Nat) = 0 from h) (by decide)
  | true =>
    cases z2 : q_ix y 3 with
    | false => rw [z1, z2] at h; exact absurd (show (1 : Nat) = 0 from h) (by decide)
    | true =>
      rw [z1, z2] at h
      obtain ⟨i, hi, rfl⟩ := q_ix_of (by omega) z1
      obtain ⟨p, hp, rfl⟩ := q_ix_of (by omega) z2
      rw [nI_clamp (by omega), nI_clamp (by omega)] at h
      refine ⟨i, p, hi, hp, rfl, rfl, ?_⟩
      by_cases z : 0 < q_whyLesson v i p
      · have h : (if 0 < q_whyLesson v i p then 2 else 0) = 0 := h
        rw [if_pos z] at h; exact absurd h (by decide)
      · omega
theorem q_whyLesson_0 {p t : Nat} (h : q_whyLesson v p t = 0) : q_plays v p = true := by
  unfold q_whyLesson at h
  cases z : q_plays v p with
  | true => rfl
  | false => rw [if_pos z] at h; exact absurd h (by decide)
def q_marchE (v : qV) (x : Int32) : Nat := cond (q_ix x 4) (cond (q_sun v && decide (¬ v 4 = 1)) 0 2) 1
theorem q_marchE_lt {x : Int32} : q_marchE v x < 65536 := by
  unfold q_marchE
  cases q_ix x 4 with
  | false => exact (by decide : 1 < 65536)
  | true =>
    cases (q_sun v && decide (¬ v 4 = 1)) with
    | false => exact (by decide : 2 < 65536)
    | true => exact (by decide : 0 < 65536)
end RefCalls2
section RefCalls3
variable {S S2 : eM} {v v2 sp : qV} {sv : Nat → qV} {sn ln : Nat} {tk : Bool} {tx : Nat → Int32}
/-- a number from lo to hi -/
def q_rg (lo hi x : Int32) : Bool := decide (¬ x < lo) && decide (¬ hi < x)
def q_dentE (ni : Nat) (x y : Int32) : Nat := cond (q_ix x ni) (cond (q_rg 1 9 y) 0 2) 1
theorem q_dentE_lt {ni : Nat} {x y : Int32} : q_dentE ni x y < 65536 := by
  unfold q_dentE
  cases q_ix x ni <;> cases q_rg 1 9 y <;> decide
def q_payE (np : Nat) (x y : Int32) : Nat := cond (q_ix x np) (cond (q_rg 1 999 y) 0 2) 1
theorem q_payE_lt {np : Nat} {x y : Int32} : q_payE np x y < 65536 := by
  unfold q_payE
  cases q_ix x np <;> cases q_rg 1 999 y <;> decide
def q_pays (v : qV) (p : Nat) (y : Int32) : Int32 := if y < q_of v p 3 then y else q_of v p 3
def q_pay (v : qV) (p : Nat) (y : Int32) : qV := upd (upd (upd v (16 + 7 * p + 3) (q_of v p 3 - q_pays v p y)) 10 (v 10 + q_pays v p y)) 8 (v 8 + q_pays v p y)
def q_passE (x : Int32) : Nat := cond (q_rg 1 30 x) 0 1
theorem q_passE_lt {x : Int32} : q_passE x < 65536 := by
  unfold q_passE
  cases q_rg 1 30 x <;> decide
end RefCalls3
section RefCalls4
variable {S S2 : eM} {v v2 sp : qV} {sv : Nat → qV} {sn ln : Nat} {tk : Bool} {tx : Nat → Int32}
def q_pupilE (np : Nat) (x : Int32) : Nat := cond (q_rg 5 30 x) (cond (decide (np = 10)) 2 0) 1
theorem q_pupilE_lt {np : Nat} {x : Int32} : q_pupilE np x < 65536 := by
  unfold q_pupilE
  cases q_rg 5 30 x <;> cases decide (np = 10) <;> decide
def q_pupil (v : qV) (np : Nat) (x : Int32) : qV := upd (upd (upd (upd v (16 + 7 * np) x) (16 + 7 * np + 1) x) (16 + 7 * np + 2) 1) 0 (nI (np + 1))
def q_instE (ni : Nat) (x : Int32) : Nat := cond (q_rg 0 3 x) (cond (decide (ni = 10)) 2 0) 1
theorem q_instE_lt {ni : Nat} {x : Int32} : q_instE ni x < 65536 := by
  unfold q_instE
  cases q_rg 0 3 x <;> cases decide (ni = 10) <;> decide
def q_inst (v : qV) (ni : Nat) (x : Int32) : qV := upd (upd v (86 + 5 * ni) x) 1 (nI (ni + 1))
/-- calls that lay no state by -/
def q_aft0 (S : eM) (v : qV) (sv : Nat → qV) (sn : Nat) (sp : qV) (tk : Bool) (tx : Nat → Int32) (ln : Nat) (post : eQ) (e : Nat) (r : Int32) (tx2 : Nat → Int32) (ln2 : Nat) : Prop :=
  (e ≠ 0 → ∀ S2, q_fm S S2 → q_M S2 v sv sn sp tk tx ln → mI S2 13 0 8 = nI e → post (some (aI 0)) S2) ∧
  (e = 0 → ∀ S2, q_fm S S2 → q_M S2 v sv sn sp tk tx2 ln2 → mI S2 13 0 8 = 0 → post (some (aI r)) S2)
def q_appE (ln : Nat) (x : Int32) : Nat := cond (q_rg 33 126 x) (cond (decide (ln = 60)) 2 0) 1
theorem q_appE_lt {x : Int32} : q_appE ln x < 65536 := by
  unfold q_appE
  cases q_rg 33 126 x <;> cases decide (ln = 60) <;> decide
end RefCalls4
section RefCalls5
variable {S S2 : eM} {v v2 sp : qV} {sv : Nat → qV} {sn ln : Nat} {tk : Bool} {tx : Nat → Int32}
/-- a row gone back to -/
def q_cp (u v : qV) : qV := fun j => if j < 146 then u j else v j
def q_setE (x y : Int32) : Nat := cond (q_ix x 3) (cond (q_rg 0 (if x = 0 then 50 else if x = 1 then 200 else 99) y) 0 2) 1
theorem q_setE_lt {x y : Int32} : q_setE x y < 65536 := by
  unfold q_setE
  cases q_ix x 3 <;> cases q_rg 0 (if x = 0 then 50 else if x = 1 then 200 else 99) y <;> decide
end RefCalls5
