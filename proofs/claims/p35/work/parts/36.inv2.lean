/-! What rows keep, 2. Own work. -/
section Rows2
variable {v v2 : qV} {B np ni nl : Nat}
/-- the loans that are left: which ones -/
theorem q_bk_at (i : Nat) (u : qV) : ∀ k, ∃ g : Nat → Nat, (∀ a, a < (q_bk i u k).2 → g a < k ∧ (q_bk i u k).1 (136 + a) = u (136 + g a) ∧ u (136 + g a) ≠ nI i) ∧ (∀ a b, a < b → b < (q_bk i u k).2 → g a < g b) ∧ ∀ a, k ≤ a → (q_bk i u k).1 (136 + a) = u (136 + a)
  | 0 => ⟨id, fun a h => absurd h (Nat.not_lt_zero a), fun a b _ h => absurd h (Nat.not_lt_zero b), fun _ _ => rfl⟩
  | k + 1 => by
    obtain ⟨g, g1, g2, g3⟩ := q_bk_at i u k
    have hle := (q_bk_le i u k).1
    rw [q_bk, g3 k (Nat.le_refl _)]
    generalize (q_bk i u k).1 = w at *
    generalize (q_bk i u k).2 = t at *
    by_cases hc : u (136 + k) = nI i
    · rw [decide_eq_true hc]
      refine ⟨g, fun a ha => ?_, g2, fun a ha => ?_⟩
      · obtain ⟨y1, y2, y3⟩ := g1 a ha
        refine ⟨by omega, ?_, y3⟩
        show upd w (136 + t) (u (136 + k)) (136 + a) = _
        have ha : a < t := ha
        rw [q_un (by omega)]
        exact y2
      · show upd w (136 + t) (u (136 + k)) (136 + a) = _
        by_cases hat : a = t
        · omega
        · rw [q_un (by omega)]
          exact g3 a (by omega)
    · rw [decide_eq_false hc]
      refine ⟨fun a => if a < t then g a else k, fun a ha => ?_, fun a b hab hb => ?_, fun a ha => ?_⟩
      · have ha : a < t + 1 := ha
        show (if a < t then g a else k) < k + 1 ∧ upd w (136 + t) (u (136 + k)) (136 + a) = u (136 + (if a < t then g a else k)) ∧ u (136 + (if a < t then g a else k)) ≠ nI i
        by_cases hat : a < t
        · rw [if_pos hat, q_un (by omega)]
          obtain ⟨y1, y2, y3⟩ := g1 a hat
          exact ⟨by omega, y2, y3⟩
        · rw [if_neg hat, q_uq (by omega)]
          exact ⟨by omega, rfl, hc⟩
      · have hb : b < t + 1 := hb
        show (if a < t then g a else k) < (if b < t then g b else k)
        rw [if_pos (by omega)]
        split
        · exact g2 a b hab (by assumption)
        · exact (g1 a (by omega)).1
      · show upd w (136 + t) (u (136 + k)) (136 + a) = _
        rw [q_un (by omega)]
        exact g3 a (by omega)
theorem q_inv_back {i p : Nat} (h : q_inv B v np ni nl) (hi : i < ni) (hp : p < np) (hlt : q_its v i 2 = nI (p + 1)) : q_inv B (q_back v nl i p) np ni (q_bk i (q_back0 v i p) nl).2 := by
  obtain ⟨⟨h1, h2, h3, h4, h5, h6⟩, hpp, hii, ⟨l1, l2⟩, ⟨z1, z2⟩, h7, m, s, m1, m2, m3⟩ := h
  have f4 : q_of v p 4 = nI (i + 1) := by
    obtain ⟨k, d, l, ⟨e1, e2, e3⟩, f, g⟩ := hii i hi
    have : l = p + 1 := (nI_eq (by omega) (by omega)).mp (e3.symm.trans hlt)
    subst this
    exact g (by omega)
  obtain ⟨b1, b2⟩ := q_bk_le i (q_back0 v i p) nl
  obtain ⟨g, gg1, gg2, -⟩ := q_bk_at i (q_back0 v i p) nl
  have e : ∀ j, j < 136 → j ≠ 16 + 7 * p + 3 → j ≠ 16 + 7 * p + 4 → j ≠ 86 + 5 * i + 2 → j ≠ 86 + 5 * i + 4 → j ≠ 2 → q_back v nl i p j = v j := fun j x a b c d e => by
    unfold q_back
    rw [q_un e, b2 j x]
    unfold q_back0
    rw [q_un d, q_un c, q_un b, q_un a]
  have y1 : q_back v nl i p (16 + 7 * p + 4) = 0 := by
    unfold q_back
    rw [q_un (by omega), b2 _ (by omega)]
    unfold q_back0
    rw [q_un (by omega), q_un (by omega), q_ue]
  have y2 : q_back v nl i p (86 + 5 * i + 2) = 0 := by
    unfold q_back
    rw [q_un (by omega), b2 _ (by omega)]
    unfold q_back0
    rw [q_un (by omega), q_ue]
  have y3 : ∀ a, a < (q_bk i (q_back0 v i p) nl).2 → q_back v nl i p (136 + a) = v (136 + g a) ∧ v (136 + g a) ≠ nI i := fun a ha => by
    obtain ⟨x1, x2, x3⟩ := gg1 a ha
    have : q_back0 v i p (136 + g a) = v (136 + g a) := by
      unfold q_back0
      rw [q_un (by omega), q_un (by omega), q_un (by omega), q_un (by omega)]
    rw [this] at x2 x3
    refine ⟨?_, x3⟩
    unfold q_back
    rw [q_un (by omega)]
    exact x2
  have y4 : q_back v nl i p 2 = nI (q_bk i (q_back0 v i p) nl).2 := q_ue
  generalize hT : (q_bk i (q_back0 v i p) nl).2 = T at *
  refine ⟨⟨h1, h2, by omega, by rw [e _ (by omega) (by omega) (by omega) (by omega) (by omega) (by omega)]; exact h4, by rw [e _ (by omega) (by omega) (by omega) (by omega) (by omega) (by omega)]; exact h5, y4⟩, fun p2 q => ?_, fun i2 q => ?_, ⟨fun k q => ?_, fun j k a b => ?_⟩, ⟨fun j a b => ?_, fun j a b => ?_⟩, ?_, m, s, ?_, ?_, m3⟩
  · obtain ⟨a, b, c, d, ⟨e1, e2, e3, e4⟩, f, g1, g2⟩ := hpp p2 q
    by_cases hq : p2 = p
    · subst hq
      refine ⟨a, b, c, 0, ⟨?_, ?_, ?_, y1⟩, ⟨f.1, f.2.1, f.2.2.1, f.2.2.2.1, f.2.2.2.2.1, by omega⟩, ?_, fun y => absurd y (by decide)⟩
      · rw [q_of, e _ (by omega) (by omega) (by omega) (by omega) (by omega) (by omega)]; exact e1
      · rw [q_of, e _ (by omega) (by omega) (by omega) (by omega) (by omega) (by omega)]; exact e2
      · rw [q_of, e _ (by omega) (by omega) (by omega) (by omega) (by omega) (by omega)]; exact e3
      · rw [q_of, e _ (by omega) (by omega) (by omega) (by omega) (by omega) (by omega)]; exact g1
    · refine ⟨a, b, c, d, ⟨?_, ?_, ?_, ?_⟩, f, ?_, fun y => ?_⟩
      · rw [q_of, e _ (by omega) (by omega) (by omega) (by omega) (by omega) (by omega)]; exact e1
      · rw [q_of, e _ (by omega) (by omega) (by omega) (by omega) (by omega) (by omega)]; exact e2
      · rw [q_of, e _ (by omega) (by omega) (by omega) (by omega) (by omega) (by omega)]; exact e3
      · rw [q_of, e _ (by omega) (by omega) (by omega) (by omega) (by omega) (by omega)]; exact e4
      · rw [q_of, e _ (by omega) (by omega) (by omega) (by omega) (by omega) (by omega)]; exact g1
      · have g3 := g2 y
        have hd : d - 1 ≠ i := fun z => by
          rw [z, hlt] at g3
          exact absurd ((nI_eq (by omega) (by omega)).mp g3) (by omega)
        rw [q_its, e _ (by omega) (by omega) (by omega) (by omega) (by omega) (by omega)]; exact g3
  · obtain ⟨k, d, l, ⟨e1, e2, e3⟩, f, g⟩ := hii i2 q
    by_cases hq : i2 = i
    · subst hq
      refine ⟨k, d, 0, ⟨?_, ?_, y2⟩, ⟨f.1, f.2.1, by omega⟩, fun y => absurd y (by decide)⟩
      · rw [q_its, e _ (by omega) (by omega) (by omega) (by omega) (by omega) (by omega)]; exact e1
      · rw [q_its, e _ (by omega) (by omega) (by omega) (by omega) (by omega) (by omega)]; exact e2
    · refine ⟨k, d, l, ⟨?_, ?_, ?_⟩, f, fun y => ?_⟩
      · rw [q_its, e _ (by omega) (by omega) (by omega) (by omega) (by omega) (by omega)]; exact e1
      · rw [q_its, e _ (by omega) (by omega) (by omega) (by omega) (by omega) (by omega)]; exact e2
      · rw [q_its, e _ (by omega) (by omega) (by omega) (by omega) (by omega) (by omega)]; exact e3
      · have g3 := g y
        have hd : l - 1 ≠ p := fun z => by
          rw [z, f4] at g3
          exact absurd ((nI_eq (by omega) (by omega)).mp g3) (by omega)
        rw [q_of, e _ (by omega) (by omega) (by omega) (by omega) (by omega) (by omega)]; exact g3
  · obtain ⟨x1, x2⟩ := y3 k q
    obtain ⟨i3, a, b, c⟩ := l1 (g k) (gg1 k q).1
    have hd : i3 ≠ i := fun z => x2 (by rw [b, z])
    exact ⟨i3, a, by rw [x1]; exact b, by rw [q_its, e _ (by omega) (by omega) (by omega) (by omega) (by omega) (by omega)]; exact c⟩
  · rw [(y3 j (by omega)).1, (y3 k b).1]
    exact l2 _ _ (gg2 j k a b) (gg1 k b).1
  · rw [e _ (by omega) (by omega) (by omega) (by omega) (by omega) (by omega)]; exact z1 j a b
  · rw [e _ (by omega) (by omega) (by omega) (by omega) (by omega) (by omega)]; exact z2 j a b
  · rw [e _ (by omega) (by omega) (by omega) (by omega) (by omega) (by omega)]; exact h7
  · rw [e _ (by omega) (by omega) (by omega) (by omega) (by omega) (by omega)]; exact m1
  · rw [e _ (by omega) (by omega) (by omega) (by omega) (by omega) (by omega)]; exact m2
/-- days: what they change -/
theorem q_ps_of (v : qV) (d : Int32) : ∀ n p, p < n → q_ps v d n (16 + 7 * p + 1) = (if q_of v p 0 < q_of v p 1 + 4 * d then q_of v p 0 else q_of v p 1 + 4 * d) ∧ q_ps v d n (16 + 7 * p + 5) = 0
  | 0, p, h => absurd h (Nat.not_lt_zero p)
  | n + 1, p, h => by
    rw [q_ps]
    by_cases hp : p = n
    · subst hp
      exact ⟨by rw [q_un (by omega), q_ue], q_ue⟩
    · obtain ⟨a, b⟩ := q_ps_of v d n p (by omega)
      exact ⟨by rw [q_un (by omega), q_un (by omega)]; exact a, by rw [q_un (by omega), q_un (by omega)]; exact b⟩
theorem q_ps_34 (v : qV) (d : Int32) : ∀ n, q_ps v d n 3 = v 3 + d ∧ q_ps v d n 4 = 0
  | 0 => ⟨by rw [q_ps, q_un (by omega), q_ue], q_ue⟩
  | n + 1 => by
    obtain ⟨a, b⟩ := q_ps_34 v d n
    rw [q_ps]
    exact ⟨by rw [q_un (by omega), q_un (by omega)]; exact a, by rw [q_un (by omega), q_un (by omega)]; exact b⟩
theorem q_breath {a b dd : Nat} (ha : a ≤ 30) (hb : b ≤ a) (hd : dd ≤ 30) : (if nI a < nI b + 4 * nI dd then nI a else nI b + 4 * nI dd) = nI (min a (b + 4 * dd)) := by
  have e : nI b + 4 * nI dd = nI (b + 4 * dd) := by rw [show (4 : Int32) * nI dd = nI (4 * dd) from nI_mul 4 dd, nI_add]
  rw [e]
  split
  · rename_i z
    have := (nI_ltI (by omega) (by omega)).mp z
    rw [show min a (b + 4 * dd) = a by omega]
  · rename_i z
    have : ¬ a < b + 4 * dd := fun y => z (nI_lt y (by omega))
    rw [show min a (b + 4 * dd) = b + 4 * dd by omega]
theorem q_inv_ps {dd : Nat} (h : q_inv B v np ni nl) (hd : dd ≤ 30) : q_inv B (q_ps v (nI dd) np) np ni nl := by
  have hh := h
  obtain ⟨⟨h1, h2, h3, h4, h5, h6⟩, hpp, hii, ⟨l1, l2⟩, ⟨z1, z2⟩, h7, m, s, m1, m2, m3⟩ := hh
  have e := q_ps_at v (nI dd) np
  have ep : ∀ p w, p < np → w < 7 → w ≠ 1 → w ≠ 5 → q_ps v (nI dd) np (16 + 7 * p + w) = v (16 + 7 * p + w) := fun p w a b c d => e _ (by
    refine Or.inr (Or.inr (Or.inr (Or.inr (Or.inr ⟨p, w, b, c, d, rfl⟩))))) 
  have eh : ∀ j, 16 + 7 * np ≤ j → q_ps v (nI dd) np j = v j := fun j a => e j (by omega)
  refine h.step ⟨e 0 (by omega), e 1 (by omega), e 2 (by omega)⟩ (fun p q => ?_) (fun i2 q => ?_) ⟨fun k q => ?_, fun j k a b => ?_⟩ (fun j a => eh j (by omega)) (Or.inl (q_ps_34 v _ np).2) ⟨m, s, ?_, ?_, m3⟩
  · obtain ⟨a, b, c, d, ⟨e1, e2, e3, e4⟩, f, g1, g2⟩ := hpp p q
    obtain ⟨x1, x2⟩ := q_ps_of v (nI dd) np p q
    refine ⟨a, min a (b + 4 * dd), c, d, ⟨?_, ?_, ?_, ?_⟩, ⟨f.1, f.2.1, by omega, f.2.2.2.1, f.2.2.2.2.1, f.2.2.2.2.2⟩, Or.inl x2, fun y => ?_⟩
    · rw [q_of, ep p 0 q (by decide) (by decide) (by decide)]; exact e1
    · rw [q_of, x1, e1, e2]; exact q_breath f.2.1 f.2.2.1 hd
    · rw [q_of, ep p 2 q (by decide) (by decide) (by decide)]; exact e3
    · rw [q_of, ep p 4 q (by decide) (by decide) (by decide)]; exact e4
    · rw [q_its, eh _ (by omega)]; exact g2 y
  · obtain ⟨k, d, l, ⟨e1, e2, e3⟩, f, g⟩ := hii i2 q
    refine ⟨k, d, l, ⟨?_, ?_, ?_⟩, f, fun y => ?_⟩
    · rw [q_its, eh _ (by omega)]; exact e1
    · rw [q_its, eh _ (by omega)]; exact e2
    · rw [q_its, eh _ (by omega)]; exact e3
    · rw [q_of, ep (l - 1) 4 (by omega) (by decide) (by decide) (by decide)]; exact g y
  · obtain ⟨i3, a, b, c⟩ := l1 k q
    exact ⟨i3, a, by rw [eh _ (by omega)]; exact b, by rw [q_its, eh _ (by omega)]; exact c⟩
  · rw [eh _ (by omega), eh _ (by omega)]; exact l2 j k a b
  · rw [e 6 (by omega)]; exact m1
  · rw [e 7 (by omega)]; exact m2
/-- what a pupil has -/
theorem q_inv.plays {p : Nat} (h : q_inv B v np ni nl) (hp : p < np) (hq : q_plays v p = true) : ∃ i k, i < ni ∧ q_has v p = i + 1 ∧ q_of v p 4 = nI (i + 1) ∧ q_its v i 2 = nI (p + 1) ∧ q_its v i 0 = nI k ∧ k < 4 := by
  obtain ⟨a, b, c, d, ⟨e1, e2, e3, e4⟩, f, g1, g2⟩ := h.2.1 p hp
  have h0 := q_plays_pos hq
  have h2 := h.1.2.1
  have hd : q_has v p = d := q_cl e4 (by omega)
  rw [hd] at h0
  obtain ⟨k, d2, l, ⟨i1, i2, i3⟩, f2, g⟩ := h.2.2.1 (d - 1) (by omega)
  have ed : d - 1 + 1 = d := by omega
  exact ⟨d - 1, k, by omega, by omega, by rw [ed]; exact e4, g2 h0, i1, f2.1⟩
theorem q_whyLesson_all {p t : Nat} (h : q_whyLesson v p t = 0) : q_plays v p = true ∧ ¬ q_of v p 5 = 1 ∧ q_of v p 2 < nI (8 + 6 * t) ∧ ¬ q_of v p 1 < 3 + q_its v (q_has v p - 1) 0 := by
  unfold q_whyLesson at h
  cases c1 : q_plays v p with
  | false => rw [if_pos c1] at h; exact absurd h (by decide)
  | true =>
    by_cases c2 : q_of v p 5 = 1
    · rw [if_neg (by rw [c1]; decide), if_pos c2] at h; exact absurd h (by decide)
    by_cases c3 : q_of v p 2 < nI (8 + 6 * t)
    · by_cases c4 : q_of v p 1 < 3 + q_its v (q_has v p - 1) 0
      · rw [if_neg (by rw [c1]; decide), if_neg c2, if_neg (fun z => z c3), if_pos c4] at h; exact absurd h (by decide)
      · exact ⟨rfl, c2, c3, c4⟩
    · rw [if_neg (by rw [c1]; decide), if_neg c2, if_pos c3] at h; exact absurd h (by decide)
theorem q_teach_at {p t j : Nat} (a : j ≠ 16 + 7 * p + 2) (b : j ≠ 16 + 7 * p + 1) (c : j ≠ 16 + 7 * p + 5) (d : j ≠ 5) (e : j ≠ 11) (f : j ≠ 8) : q_teach v p t j = v j := by
  unfold q_teach
  rw [q_un f, q_un e, q_un d, q_un c, q_un b, q_un a]
theorem q_inv_teach {p t : Nat} (h : q_inv B v np ni nl) (hp : p < np) (ht : t < 3) (hw : q_whyLesson v p t = 0) : q_inv B (q_teach v p t) np ni nl := by
  obtain ⟨w1, w2, w3, w4⟩ := q_whyLesson_all hw
  obtain ⟨i0, k0, i01, i02, i03, i04, i05, i06⟩ := h.plays hp w1
  have hh := h
  obtain ⟨⟨h1, h2, h3, h4, h5, h6⟩, hpp, hii, ⟨l1, l2⟩, ⟨z1, z2⟩, h7, m, s, m1, m2, m3⟩ := hh
  rw [i02, Nat.add_sub_cancel, i05, show (3 : Int32) + nI k0 = nI (3 + k0) from nI_add 3 k0] at w4
  have e : ∀ j, j ≠ 16 + 7 * p + 2 → j ≠ 16 + 7 * p + 1 → j ≠ 16 + 7 * p + 5 → j ≠ 5 → j ≠ 11 → j ≠ 8 → q_teach v p t j = v j := fun j => q_teach_at
  have x1 : q_teach v p t (16 + 7 * p + 2) = q_of v p 2 + 1 := by unfold q_teach; rw [q_un (by omega), q_un (by omega), q_un (by omega), q_un (by omega), q_un (by omega), q_ue]
  have x2 : q_teach v p t (16 + 7 * p + 1) = q_of v p 1 - 3 - nI k0 := by unfold q_teach; rw [q_un (by omega), q_un (by omega), q_un (by omega), q_un (by omega), q_ue, i02, Nat.add_sub_cancel, i05]
  have x3 : q_teach v p t (16 + 7 * p + 5) = 1 := by unfold q_teach; rw [q_un (by omega), q_un (by omega), q_un (by omega), q_ue]
  refine h.step ⟨e _ (by omega) (by omega) (by omega) (by omega) (by omega) (by omega), e _ (by omega) (by omega) (by omega) (by omega) (by omega) (by omega), e _ (by omega) (by omega) (by omega) (by omega) (by omega) (by omega)⟩ (fun p2 q => ?_) (fun i2 q => ?_) ⟨fun k q => ?_, fun j k a b => ?_⟩ (fun j a => e j (by omega) (by omega) (by omega) (by omega) (by omega) (by omega)) ?_ ⟨m, s, ?_, ?_, m3⟩
  · obtain ⟨a, b, c, d, ⟨e1, e2, e3, e4⟩, f, g1, g2⟩ := hpp p2 q
    by_cases hq : p2 = p
    · subst hq
      rw [e3] at w3 x1
      rw [e2] at w4 x2
      have w3 := (nI_ltI (by omega) (by omega)).mp w3
      have w4 : ¬ b < 3 + k0 := fun y => w4 (nI_lt y (by omega))
      refine ⟨a, b - 3 - k0, c + 1, d, ⟨?_, ?_, ?_, ?_⟩, ⟨f.1, f.2.1, by omega, by omega, by omega, f.2.2.2.2.2⟩, Or.inr x3, fun y => ?_⟩
      · rw [q_of, e _ (by omega) (by omega) (by omega) (by omega) (by omega) (by omega)]; exact e1
      · rw [q_of, x2, show nI b - 3 = nI (b - 3) from q_sub (b := 3) (by omega), q_sub (by omega)]
      · rw [q_of, x1, nI_1]
      · rw [q_of, e _ (by omega) (by omega) (by omega) (by omega) (by omega) (by omega)]; exact e4
      · rw [q_its, e _ (by omega) (by omega) (by omega) (by omega) (by omega) (by omega)]; exact g2 y
    · refine ⟨a, b, c, d, ⟨?_, ?_, ?_, ?_⟩, f, ?_, fun y => ?_⟩
      · rw [q_of, e _ (by omega) (by omega) (by omega) (by omega) (by omega) (by omega)]; exact e1
      · rw [q_of, e _ (by omega) (by omega) (by omega) (by omega) (by omega) (by omega)]; exact e2
      · rw [q_of, e _ (by omega) (by omega) (by omega) (by omega) (by omega) (by omega)]; exact e3
      · rw [q_of, e _ (by omega) (by omega) (by omega) (by omega) (by omega) (by omega)]; exact e4
      · rw [q_of, e _ (by omega) (by omega) (by omega) (by omega) (by omega) (by omega)]; exact g1
      · rw [q_its, e _ (by omega) (by omega) (by omega) (by omega) (by omega) (by omega)]; exact g2 y
  · obtain ⟨k, d, l, ⟨e1, e2, e3⟩, f, g⟩ := hii i2 q
    refine ⟨k, d, l, ⟨?_, ?_, ?_⟩, f, fun y => ?_⟩
    · rw [q_its, e _ (by omega) (by omega) (by omega) (by omega) (by omega) (by omega)]; exact e1
    · rw [q_its, e _ (by omega) (by omega) (by omega) (by omega) (by omega) (by omega)]; exact e2
    · rw [q_its, e _ (by omega) (by omega) (by omega) (by omega) (by omega) (by omega)]; exact e3
    · rw [q_of, e _ (by omega) (by omega) (by omega) (by omega) (by omega) (by omega)]; exact g y
  · obtain ⟨i3, a, b, c⟩ := l1 k q
    exact ⟨i3, a, by rw [e _ (by omega) (by omega) (by omega) (by omega) (by omega) (by omega)]; exact b, by rw [q_its, e _ (by omega) (by omega) (by omega) (by omega) (by omega) (by omega)]; exact c⟩
  · rw [e _ (by omega) (by omega) (by omega) (by omega) (by omega) (by omega), e _ (by omega) (by omega) (by omega) (by omega) (by omega) (by omega)]; exact l2 j k a b
  · rw [e _ (by omega) (by omega) (by omega) (by omega) (by omega) (by omega)]; exact h7
  · rw [e _ (by omega) (by omega) (by omega) (by omega) (by omega) (by omega)]; exact m1
  · rw [e _ (by omega) (by omega) (by omega) (by omega) (by omega) (by omega)]; exact m2
theorem q_inv_pupil {a : Nat} (h : q_inv B v np ni nl) (hn : np < 10) (ha : 5 ≤ a) (ha2 : a ≤ 30) : q_inv B (q_pupil v np (nI a)) (np + 1) ni nl := by
  obtain ⟨⟨h1, h2, h3, h4, h5, h6⟩, hpp, hii, ⟨l1, l2⟩, ⟨z1, z2⟩, h7, m, s, m1, m2, m3⟩ := h
  have e : ∀ j, j ≠ 16 + 7 * np → j ≠ 16 + 7 * np + 1 → j ≠ 16 + 7 * np + 2 → j ≠ 0 → q_pupil v np (nI a) j = v j := fun j a b c d => by unfold q_pupil; rw [q_un d, q_un c, q_un b, q_un a]
  have x0 : q_pupil v np (nI a) (16 + 7 * np + 0) = nI a := by unfold q_pupil; rw [q_un (by omega), q_un (by omega), q_un (by omega), q_uq (by omega)]
  have x1 : q_pupil v np (nI a) (16 + 7 * np + 1) = nI a := by unfold q_pupil; rw [q_un (by omega), q_un (by omega), q_ue]
  have x2 : q_pupil v np (nI a) (16 + 7 * np + 2) = 1 := by unfold q_pupil; rw [q_un (by omega), q_ue]
  refine ⟨⟨hn, h2, h3, q_ue, by rw [e _ (by omega) (by omega) (by omega) (by omega)]; exact h5, by rw [e _ (by omega) (by omega) (by omega) (by omega)]; exact h6⟩, fun p2 q => ?_, fun i2 q => ?_, ⟨fun k q => ?_, fun j k a b => ?_⟩, ⟨fun j a b => ?_, fun j a b => ?_⟩, ?_, m, s, ?_, ?_, m3⟩
  · by_cases hq : p2 = np
    · subst hq
      refine ⟨a, a, 1, 0, ⟨x0, x1, x2, ?_⟩, ⟨ha, ha2, Nat.le_refl _, by decide, by decide, by omega⟩, Or.inl ?_, fun y => absurd y (by decide)⟩
      · rw [q_of, e _ (by omega) (by omega) (by omega) (by omega)]; exact z1 _ (by omega) (by omega)
      · rw [q_of, e _ (by omega) (by omega) (by omega) (by omega)]; exact z1 _ (by omega) (by omega)
    · obtain ⟨a, b, c, d, ⟨e1, e2, e3, e4⟩, f, g1, g2⟩ := hpp p2 (by omega)
      refine ⟨a, b, c, d, ⟨?_, ?_, ?_, ?_⟩, f, ?_, fun y => ?_⟩
      · rw [q_of, e _ (by omega) (by omega) (by omega) (by omega)]; exact e1
      · rw [q_of, e _ (by omega) (by omega) (by omega) (by omega)]; exact e2
      · rw [q_of, e _ (by omega) (by omega) (by omega) (by omega)]; exact e3
      · rw [q_of, e _ (by omega) (by omega) (by omega) (by omega)]; exact e4
      · rw [q_of, e _ (by omega) (by omega) (by omega) (by omega)]; exact g1
      · rw [q_its, e _ (by omega) (by omega) (by omega) (by omega)]; exact g2 y
  · obtain ⟨k, d, l, ⟨e1, e2, e3⟩, f, g⟩ := hii i2 q
    refine ⟨k, d, l, ⟨?_, ?_, ?_⟩, ⟨f.1, f.2.1, by omega⟩, fun y => ?_⟩
    · rw [q_its, e _ (by omega) (by omega) (by omega) (by omega)]; exact e1
    · rw [q_its, e _ (by omega) (by omega) (by omega) (by omega)]; exact e2
    · rw [q_its, e _ (by omega) (by omega) (by omega) (by omega)]; exact e3
    · rw [q_of, e _ (by omega) (by omega) (by omega) (by omega)]; exact g y
  · obtain ⟨i3, a, b, c⟩ := l1 k q
    exact ⟨i3, a, by rw [e _ (by omega) (by omega) (by omega) (by omega)]; exact b, by rw [q_its, e _ (by omega) (by omega) (by omega) (by omega)]; exact c⟩
  · rw [e _ (by omega) (by omega) (by omega) (by omega), e _ (by omega) (by omega) (by omega) (by omega)]; exact l2 j k a b
  · rw [e _ (by omega) (by omega) (by omega) (by omega)]; exact z1 j (by omega) b
  · rw [e _ (by omega) (by omega) (by omega) (by omega)]; exact z2 j a b
  · rw [e _ (by omega) (by omega) (by omega) (by omega)]; exact h7
  · rw [e _ (by omega) (by omega) (by omega) (by omega)]; exact m1
  · rw [e _ (by omega) (by omega) (by omega) (by omega)]; exact m2
theorem q_inv_inst {k : Nat} (h : q_inv B v np ni nl) (hn : ni < 10) (hk : k < 4) : q_inv B (q_inst v ni (nI k)) np (ni + 1) nl := by
  obtain ⟨⟨h1, h2, h3, h4, h5, h6⟩, hpp, hii, ⟨l1, l2⟩, ⟨z1, z2⟩, h7, m, s, m1, m2, m3⟩ := h
  have e : ∀ j, j ≠ 86 + 5 * ni → j ≠ 1 → q_inst v ni (nI k) j = v j := fun j a b => by unfold q_inst; rw [q_un b, q_un a]
  have x0 : q_inst v ni (nI k) (86 + 5 * ni + 0) = nI k := by unfold q_inst; rw [q_un (by omega), q_uq (by omega)]
  refine ⟨⟨h1, hn, h3, by rw [e _ (by omega) (by omega)]; exact h4, q_ue, by rw [e _ (by omega) (by omega)]; exact h6⟩, fun p2 q => ?_, fun i2 q => ?_, ⟨fun k q => ?_, fun j k a b => ?_⟩, ⟨fun j a b => ?_, fun j a b => ?_⟩, ?_, m, s, ?_, ?_, m3⟩
  · obtain ⟨a, b, c, d, ⟨e1, e2, e3, e4⟩, f, g1, g2⟩ := hpp p2 (by omega)
    refine ⟨a, b, c, d, ⟨?_, ?_, ?_, ?_⟩, ⟨f.1, f.2.1, f.2.2.1, f.2.2.2.1, f.2.2.2.2.1, by omega⟩, ?_, fun y => ?_⟩
    · rw [q_of, e _ (by omega) (by omega)]; exact e1
    · rw [q_of, e _ (by omega) (by omega)]; exact e2
    · rw [q_of, e _ (by omega) (by omega)]; exact e3
    · rw [q_of, e _ (by omega) (by omega)]; exact e4
    · rw [q_of, e _ (by omega) (by omega)]; exact g1
    · rw [q_its, e _ (by omega) (by omega)]; exact g2 y
  · by_cases hq : i2 = ni
    · subst hq
      refine ⟨k, 0, 0, ⟨x0, ?_, ?_⟩, ⟨hk, by decide, by omega⟩, fun y => absurd y (by decide)⟩
      · rw [q_its, e _ (by omega) (by omega)]; exact z2 _ (by omega) (by omega)
      · rw [q_its, e _ (by omega) (by omega)]; exact z2 _ (by omega) (by omega)
    · obtain ⟨k, d, l, ⟨e1, e2, e3⟩, f, g⟩ := hii i2 (by omega)
      refine ⟨k, d, l, ⟨?_, ?_, ?_⟩, f, fun y => ?_⟩
      · rw [q_its, e _ (by omega) (by omega)]; exact e1
      · rw [q_its, e _ (by omega) (by omega)]; exact e2
      · rw [q_its, e _ (by omega) (by omega)]; exact e3
      · rw [q_of, e _ (by omega) (by omega)]; exact g y
  · obtain ⟨i3, a, b, c⟩ := l1 k q
    exact ⟨i3, by omega, by rw [e _ (by omega) (by omega)]; exact b, by rw [q_its, e _ (by omega) (by omega)]; exact c⟩
  · rw [e _ (by omega) (by omega), e _ (by omega) (by omega)]; exact l2 j k a b
  · rw [e _ (by omega) (by omega)]; exact z1 j a b
  · rw [e _ (by omega) (by omega)]; exact z2 j (by omega) b
  · rw [e _ (by omega) (by omega)]; exact h7
  · rw [e _ (by omega) (by omega)]; exact m1
  · rw [e _ (by omega) (by omega)]; exact m2
end Rows2
