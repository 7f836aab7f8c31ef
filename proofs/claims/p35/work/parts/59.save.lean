/-! What walks come to: the whole of the system's state, and its saving. Own work. -/
section Save
variable {S S1 S2 : eM} {post : eQ} {v sp : qV} {sv sv2 : Nat → qV} {sn ln n : Nat} {tk : Bool} {tx : Nat → Int32} {B b np ni nl : Nat} {a a2 : Nat → Nat}
/-- what lies beyond the system is as it was -/
def q_w (S S2 : eM) : Prop := ∀ k i, 13 ≤ k → mI S2 k i = mI S k i ∧ mR S2 k i = mR S k i ∧ mL S2 k i = mL S k i
theorem q_w.rf : q_w S S := fun _ _ _ => ⟨rfl, rfl, rfl⟩
theorem q_w.trans (h : q_w S S1) (g : q_w S1 S2) : q_w S S2 := fun k i c => ⟨(g k i c).1.trans (h k i c).1, (g k i c).2.1.trans (h k i c).2.1, (g k i c).2.2.trans (h k i c).2.2⟩
theorem q_w.fb (h : q_fb b S S2) : q_w S S2 := fun k i c => ⟨h.1 k i (fun z => by unfold q_rgn at z; omega), congrFun (congrFun h.2.1 k) i, congrFun (congrFun h.2.2 k) i⟩
theorem q_w.f0 (h : q_f0 S S2) : q_w S S2 := fun k i c => ⟨h.1 k i (fun z => by unfold q_rgn at z; omega) (by omega), congrFun (congrFun h.2.1 k) i, congrFun (congrFun h.2.2 k) i⟩
theorem q_w.g (h : q_g S S2) : q_w S S2 := fun k i c => ⟨h.1 k i (by omega) (by omega) (by omega), h.2 k i (by omega) (by omega)⟩
theorem q_w.sI (h : q_w S S1) {k i j : Nat} {x : Int32} (hk : k < 13) : q_w S (sI S1 k i j x) := fun k2 i2 c => ⟨(e_u3_ne (fun z => by cases z; omega)).trans (h k2 i2 c).1, (h k2 i2 c).2⟩
/-- the places of the saved states -/
def q_sd (S : eM) (a : Nat → Nat) : Prop := (∀ k, k < 6 → mR S 8 0 k = some (1, a k) ∧ 2 ≤ a k ∧ a k ≤ 7) ∧ ∀ j k, j < 6 → k < 6 → a j = a k → j = k
/-- a band that holds some row -/
def q_bb (S : eM) (b : Nat) (v : qV) (B : Nat) : Prop := ∃ p i l, q_B S b v p i l ∧ q_inv B v p i l
/-- the text, and the line-up's -/
def q_tt (S : eM) (tx : Nat → Int32) (ln : Nat) : Prop := ln ≤ 60 ∧ ∃ i io f n, i ≠ io ∧ q_T1 S 0 i f n ∧ q_T1 S 1 io tx ln
/-- what the system holds beside its present state -/
def q_ho (S : eM) (sv : Nat → qV) (sn : Nat) (sp : qV) (tk : Bool) (tx : Nat → Int32) (ln B : Nat) (a : Nat → Nat) : Prop := (mI S 0 0 4 = nI sn ∧ sn ≤ 6) ∧ q_sd S a ∧ (∀ k, k < sn → q_bb S (a k) (sv k) B) ∧ (mI S 0 0 2 = cond tk 1 0 ∧ (tk = true → q_bb S 1 sp B)) ∧ q_tt S tx ln
theorem q_bb.off {b2 : Nat} (h : q_bb S b v B) (f : q_fb b2 S S2) (hb : b ≠ b2) : q_bb S2 b v B := by
  obtain ⟨p, i, l, h1, h2⟩ := h
  exact ⟨p, i, l, h1.off ⟨h2.1.1, h2.1.2.1⟩ f hb, h2⟩
theorem q_bb.g (h : q_bb S b v B) (f : q_g S S2) : q_bb S2 b v B := by
  obtain ⟨p, i, l, h1, h2⟩ := h
  exact ⟨p, i, l, h1.g f, h2⟩
theorem q_bb.mono {B2 : Nat} (h : q_bb S b v B) (hB : B ≤ B2) : q_bb S b v B2 := by
  obtain ⟨p, i, l, h1, h2⟩ := h
  exact ⟨p, i, l, h1, h2.mono hB⟩
theorem q_B.eqm (h : q_B S b v np ni nl) (e : ∀ k i, k ≠ 0 → mI S2 k i = mI S k i) : q_B S2 b v np ni nl := by
  have e1 : ∀ i, mI S2 1 i = mI S 1 i := fun i => e 1 i (by decide)
  have e2 : ∀ i, mI S2 2 i = mI S 2 i := fun i => e 2 i (by decide)
  have e3 : ∀ i, mI S2 3 i = mI S 3 i := fun i => e 3 i (by decide)
  have e6 : ∀ i, mI S2 6 i = mI S 6 i := fun i => e 6 i (by decide)
  have e7 : ∀ i, mI S2 7 i = mI S 7 i := fun i => e 7 i (by decide)
  unfold q_B q_P q_I
  simp only [e1, e2, e3, e6, e7]
  exact h
theorem q_bb.eqm (h : q_bb S b v B) (e : ∀ k i, k ≠ 0 → mI S2 k i = mI S k i) : q_bb S2 b v B := by
  obtain ⟨p, i, l, h1, h2⟩ := h
  exact ⟨p, i, l, h1.eqm e, h2⟩
theorem q_T1.eqm {s i ln : Nat} {f : Nat → Int32} (h : q_T1 S s i f ln) (e : ∀ i, mI S2 10 i = mI S 10 i ∧ mI S2 11 i = mI S 11 i ∧ mR S2 10 i = mR S 10 i) : q_T1 S2 s i f ln := by
  unfold q_T1
  rw [(e s).1, (e i).2.1, (e s).2.2]
  exact h
theorem q_tt.eqm (h : q_tt S tx ln) (e : ∀ i, mI S2 10 i = mI S 10 i ∧ mI S2 11 i = mI S 11 i ∧ mR S2 10 i = mR S 10 i) : q_tt S2 tx ln := by
  obtain ⟨h0, i, io, f, n, h1, h2, h3⟩ := h
  exact ⟨h0, i, io, f, n, h1, h2.eqm e, h3.eqm e⟩
theorem q_ho.f0 (h : q_ho S sv sn sp tk tx ln B a) (f : q_f0 S S2) : q_ho S2 sv sn sp tk tx ln B a := by
  obtain ⟨⟨h1, h2⟩, ⟨h3, h4⟩, h5, ⟨h6, h7⟩, h8⟩ := h
  have e0 : mI S2 0 0 = mI S 0 0 := f.1 0 0 (fun z => by unfold q_rgn at z; omega) (by omega)
  have off : ∀ b w, b ≠ 0 → b < 10 → q_bb S b w B → q_bb S2 b w B := fun b w hb hb2 hw => by
    obtain ⟨p, i, l, g1, g2⟩ := hw
    refine ⟨p, i, l, ?_, g2⟩
    have gp := g2.1.1
    have gi := g2.1.2.1
    have e1 : mI S2 1 b = mI S 1 b := f.1 1 b (fun z => by unfold q_rgn at z; omega) (by omega)
    have e2 : ∀ p, p < 10 → mI S2 2 (10 * b + p) = mI S 2 (10 * b + p) := fun p hp => f.1 2 _ (fun z => by unfold q_rgn at z; omega) (by omega)
    have e3 : ∀ p, p < 10 → mI S2 3 (10 * b + p) = mI S 3 (10 * b + p) := fun p hp => f.1 3 _ (fun z => by unfold q_rgn at z; omega) (by omega)
    have e6 : mI S2 6 b = mI S 6 b := f.1 6 b (fun z => by unfold q_rgn at z; omega) (by omega)
    have e7 : mI S2 7 b = mI S 7 b := f.1 7 b (fun z => by unfold q_rgn at z; omega) (by omega)
    obtain ⟨q1, q2, q3, q4, q5, q6, q7⟩ := g1
    refine ⟨by rw [e1]; exact q1, by rw [e1]; exact q2, by rw [e7]; exact q3, fun p hp => ?_, fun i hi => ?_, by rw [e6]; exact q6, fun p hp => by rw [e2 p hp]; exact q7 p hp⟩
    · have := q4 p hp
      unfold q_P at this ⊢
      rw [e2 p (by omega)]
      exact this
    · have := q5 i hi
      unfold q_I at this ⊢
      rw [e3 i (by omega)]
      exact this
  refine ⟨⟨by rw [e0]; exact h1, h2⟩, ⟨by rw [f.2.1]; exact h3, h4⟩, fun k hk => ?_, ⟨by rw [e0]; exact h6, fun y => off 1 _ (by decide) (by decide) (h7 y)⟩, h8.eqm (fun i => ⟨f.1 10 i (fun z => by unfold q_rgn at z; omega) (by omega), f.1 11 i (fun z => by unfold q_rgn at z; omega) (by omega), by rw [f.2.1]⟩)⟩
  have := (h3 k (by omega)).2
  exact off _ _ (by omega) (by omega) (h5 k hk)
theorem q_ho.fb (h : q_ho S sv sn sp tk tx ln B a) (f : q_fb 0 S S2) : q_ho S2 sv sn sp tk tx ln B a := h.f0 (q_f0.fb f)
/-- .. and the texts changed -/
theorem q_ho.g {tx2 : Nat → Int32} {ln2 : Nat} (h : q_ho S sv sn sp tk tx ln B a) (f : q_g S S2) (t : q_tt S2 tx2 ln2) : q_ho S2 sv sn sp tk tx2 ln2 B a := by
  obtain ⟨⟨h1, h2⟩, ⟨h3, h4⟩, h5, ⟨h6, h7⟩, -⟩ := h
  have e0 : mI S2 0 0 = mI S 0 0 := f.1 0 0 (by omega) (by omega) (by omega)
  have e8 : mR S2 8 0 = mR S 8 0 := (f.2 8 0 (by omega) (by omega)).1
  exact ⟨⟨by rw [e0]; exact h1, h2⟩, ⟨by rw [e8]; exact h3, h4⟩, fun k hk => (h5 k hk).g f, ⟨by rw [e0]; exact h6, fun y => (h7 y).g f⟩, t⟩
theorem q_ho.mono {B2 : Nat} (h : q_ho S sv sn sp tk tx ln B a) (hB : B ≤ B2) : q_ho S sv sn sp tk tx ln B2 a := ⟨h.1, h.2.1, fun k hk => (h.2.2.1 k hk).mono hB, ⟨h.2.2.2.1.1, fun y => (h.2.2.2.1.2 y).mono hB⟩, h.2.2.2.2⟩
theorem q_save_tail (hn : n ≤ 5) (hR : q_ho S sv n sp tk tx ln B a) (hB : q_B S 0 v np ni nl) (hi : q_inv B v np ni nl) (h : ∀ S2, q_w S S2 → q_B S2 0 v np ni nl → q_ho S2 (fun k => if k < n then sv k else v) (n + 1) sp tk tx ln B a → post none S2) (l1 l2 : Option eV) : e_Run tb_X4_save post e_no 56 [some (aR 0 0), l1, l2] [] S 0 0 := by
  obtain ⟨⟨h1, h2⟩, ⟨h3, h4⟩, h5, ⟨h6, h7⟩, h8⟩ := hR
  have h3n := h3 n (by omega)
  refine e_walk (stops := [60]) 20 ?_
  show e_Run tb_X4_save post e_no 60 [some (aR 0 0), l1, l2] [aI (mI S 0 0 4)] S 0 0
  rw [h1]
  refine e_walk (stops := [67]) 20 ?_
  refine And.intro (fun c => absurd c (nI_pos (by omega))) (fun _ => ?_)
  show e_Run tb_X4_save post e_no 67 [some (aR 0 0), l1, l2] [aI (mI S 0 0 4)] S 0 0
  rw [h1]
  refine e_walk (stops := [83]) 20 ?_
  refine And.intro (fun c => absurd c (nI_ge (a := n) (b := 6) (by omega) (by decide))) (fun _ => ?_)
  show e_Run tb_X4_save post e_no 83 [some (aR 0 0), l1, l2] [aI (mI S 0 0 4), aR 8 0] S 0 0
  rw [h1]
  refine e_walk (stops := [84]) 20 ?_
  refine And.intro (q_in (n := n) (L := 6) rfl (by omega) (by decide)) ?_
  show e_Run tb_X4_save post e_no 84 [some (aR 0 0), l1, l2] [aO (mR S 8 0 (nI n).toNatClampNeg)] S 0 0
  rw [nI_clamp (by omega), h3n.1]
  refine e_walk (stops := [91]) 20 ?_
  refine q_X0_copyFrom hi.1.1 hi.1.2.1 hi.1.2.2.1 (by omega) hB hi.2.2.2.2.2.1 (fun S2 f2 hB2 => ?_)
  have e0 : mI S2 0 0 = mI S 0 0 := f2.1 0 0 (fun z => by unfold q_rgn at z; omega)
  refine e_walk (stops := [96]) 20 ?_
  show e_Run tb_X4_save post e_no 96 [some (aR 0 0), l1, l2] [aI (mI S2 0 0 4), aR 0 0] S2 0 0
  rw [e0, h1]
  refine e_walk (stops := [98]) 20 ?_
  show e_Run tb_X4_save post e_no 98 [some (aR 0 0), l1, l2] [aI (nI n + 1), aR 0 0] S2 0 0
  rw [nI_1]
  refine e_walk (stops := []) 20 ?_
  have eq0 : ∀ k i, k ≠ 0 → mI (sI S2 0 0 4 (nI (n + 1))) k i = mI S2 k i := fun k i hk => e_u3_ne (fun z => hk (congrArg Prod.fst z))
  have hd : ∀ k, k < n → a k ≠ a n := fun k hk z => by have := h4 k n (by omega) (by omega) z; omega
  refine h _ ((q_w.fb f2).sI (by decide)) ((hB.off ⟨hi.1.1, hi.1.2.1⟩ f2 (by omega)).eqm eq0) ⟨⟨q_s_self, by omega⟩, ⟨?_, h4⟩, fun k hk => ?_, ⟨?_, fun y => ((h7 y).off f2 (by omega)).eqm eq0⟩, (h8.eqm (fun i => ⟨f2.1 10 i (fun z => by unfold q_rgn at z; omega), f2.1 11 i (fun z => by unfold q_rgn at z; omega), by rw [f2.2.1]⟩)).eqm (fun i => ⟨eq0 10 i (by decide), eq0 11 i (by decide), rfl⟩)⟩
  · show ∀ k, k < 6 → mR S2 8 0 k = some (1, a k) ∧ 2 ≤ a k ∧ a k ≤ 7
    rw [f2.2.1]; exact h3
  · by_cases c : k < n
    · show q_bb _ (a k) (if k < n then sv k else v) B
      rw [if_pos c]
      exact ((h5 k c).off f2 (hd k c)).eqm eq0
    · show q_bb _ (a k) (if k < n then sv k else v) B
      rw [if_neg c]
      obtain rfl : k = n := by omega
      exact ⟨np, ni, nl, hB2.eqm eq0, hi⟩
  · rw [q_s_ne (by omega), e0]; exact h6
theorem q_X4_save (hR : q_ho S sv sn sp tk tx ln B a) (hB : q_B S 0 v np ni nl) (hi : q_inv B v np ni nl) (h : ∀ S2 a2, q_w S S2 → q_B S2 0 v np ni nl → q_ho S2 (q_sv sv sn v) (min sn 5 + 1) sp tk tx ln B a2 → post none S2) : w_X4_save [aR 0 0] S post := by
  have hR0 := hR
  obtain ⟨⟨h1, h2⟩, ⟨h3, h4⟩, h5, ⟨h6, h7⟩, h8⟩ := hR
  refine e_walk (stops := [4]) 20 ?_
  show e_Run tb_X4_save post e_no 4 [some (aR 0 0), none, none] [aI (mI S 0 0 4)] S 0 0
  rw [h1]
  refine e_walk (stops := [56, 9]) 20 ?_
  by_cases c6 : sn < 6
  · refine And.intro (fun _ => ?_) (fun c => absurd (nI_lt (a := sn) (b := 6) c6 (by decide)) c)
    have e5 : min sn 5 = sn := by omega
    have hR1 : q_ho S (fun k => sv (if sn = 6 then k + 1 else k)) (min sn 5) sp tk tx ln B a := ⟨⟨by rw [e5]; exact h1, by omega⟩, ⟨h3, h4⟩, fun k hk => by
      show q_bb S (a k) (sv (if sn = 6 then k + 1 else k)) B
      rw [if_neg (by omega)]
      exact h5 k (by omega), ⟨h6, h7⟩, h8⟩
    exact q_save_tail (by omega) hR1 hB hi (fun S2 w2 b2 r2 => h S2 a w2 b2 r2) _ _
  · obtain rfl : sn = 6 := by omega
    refine And.intro (fun c => absurd c (by decide)) (fun _ => ?_)
    have loop : ∀ d k, k + d = 6 → 1 ≤ k → ∀ S1, mI S1 = mI S → mL S1 = mL S → (∀ k i, ¬ (k = 8 ∧ i = 0) → mR S1 k i = mR S k i) → (∀ j, j < 6 → mR S1 8 0 j = some (1, a (if j + 1 < k then j + 1 else j))) → e_Run tb_X4_save post e_no 18 [some (aR 0 0), some (aR 1 (a 0)), some (aI (nI k))] [] S1 0 0 := by
      intro d
      induction d with
      | zero =>
        intro k hk k1 S1 eI eL eR hr
        obtain rfl : k = 6 := by omega
        refine e_walk (stops := [56]) 20 ?_
        refine And.intro (fun _ => ?_) (fun c => absurd (by decide) c)
        refine And.intro (q_in (n := 5) (L := 6) rfl (by decide) (by decide)) (And.intro (fun q z => by cases z) ?_)
        show e_Run tb_X4_save post e_no 56 [some (aR 0 0), some (aR 1 (a 0)), some (aI (nI 6))] [] (sI (sR S1 8 0 (nI 5).toNatClampNeg (some (1, a 0))) 0 0 4 (nI 5)) 0 0
        rw [nI_clamp (by decide)]
        have eq0 : ∀ k i, k ≠ 0 → mI (sI (sR S1 8 0 5 (some (1, a 0))) 0 0 4 (nI 5)) k i = mI S k i := fun k i hk => (e_u3_ne (fun z => hk (congrArg Prod.fst z))).trans (show mI S1 k i = mI S k i by rw [eI])
        have eR2 : ∀ k i, ¬ (k = 8 ∧ i = 0) → mR (sI (sR S1 8 0 5 (some (1, a 0))) 0 0 4 (nI 5)) k i = mR S k i := fun k i hk => (e_u3_ne (fun z => by cases z; exact hk ⟨rfl, rfl⟩)).trans (eR k i hk)
        have hsd : q_sd (sI (sR S1 8 0 5 (some (1, a 0))) 0 0 4 (nI 5)) (fun k => if k = 5 then a 0 else a (k + 1)) := by
          refine ⟨fun k hk => ?_, fun j k hj hk e => ?_⟩
          · show e_u3 (mR S1) 8 0 5 (some (1, a 0)) 8 0 k = some (1, if k = 5 then a 0 else a (k + 1)) ∧ 2 ≤ (if k = 5 then a 0 else a (k + 1)) ∧ (if k = 5 then a 0 else a (k + 1)) ≤ 7
            by_cases c : k = 5
            · rw [if_pos c]
              refine ⟨?_, (h3 0 (by decide)).2⟩
              rw [c]; exact if_pos ⟨rfl, rfl, rfl⟩
            · rw [if_neg c]
              refine ⟨?_, (h3 (k + 1) (by omega)).2⟩
              have := hr k hk
              rw [if_pos (by omega)] at this
              exact (if_neg (fun z => c z.2.2)).trans this
          · have e : (if j = 5 then a 0 else a (j + 1)) = (if k = 5 then a 0 else a (k + 1)) := e
            by_cases cj : j = 5 <;> by_cases ck : k = 5
            · omega
            · rw [if_pos cj, if_neg ck] at e
              have := h4 0 (k + 1) (by decide) (by omega) e
              omega
            · rw [if_neg cj, if_pos ck] at e
              have := h4 (j + 1) 0 (by omega) (by decide) e
              omega
            · rw [if_neg cj, if_neg ck] at e
              have := h4 (j + 1) (k + 1) (by omega) (by omega) e
              omega
        have hR1 : q_ho (sI (sR S1 8 0 5 (some (1, a 0))) 0 0 4 (nI 5)) (fun k => sv (if 6 = 6 then k + 1 else k)) (min 6 5) sp tk tx ln B (fun k => if k = 5 then a 0 else a (k + 1)) := by
          refine ⟨⟨q_s_self, by decide⟩, hsd, fun k hk => ?_, ⟨?_, fun y => (h7 y).eqm eq0⟩, h8.eqm (fun i => ⟨eq0 10 i (by decide), eq0 11 i (by decide), eR2 10 i (by omega)⟩)⟩
          · show q_bb _ (if k = 5 then a 0 else a (k + 1)) (sv (if 6 = 6 then k + 1 else k)) B
            rw [if_neg (by omega), if_pos rfl]
            exact (h5 (k + 1) (by omega)).eqm eq0
          · rw [q_s_ne (by omega), show mI (sR S1 8 0 5 (some (1, a 0))) = mI S1 from rfl, eI]; exact h6
        have hw1 : q_w S (sI (sR S1 8 0 5 (some (1, a 0))) 0 0 4 (nI 5)) := fun k i hk => ⟨eq0 k i (by omega), eR2 k i (by omega), by show mL S1 k i = _; rw [eL]⟩
        exact q_save_tail (n := min 6 5) (by decide) hR1 (hB.eqm eq0) hi (fun S2 w2 b2 r2 => h S2 _ (hw1.trans w2) b2 r2) _ _
      | succ d ih =>
        intro k hk k1 S1 eI eL eR hr
        refine e_walk (stops := [31]) 20 ?_
        refine And.intro (fun c => absurd c (nI_ge (a := k) (b := 6) (by omega) (by decide))) (fun _ => ?_)
        show e_Run tb_X4_save post e_no 31 [some (aR 0 0), some (aR 1 (a 0)), some (aI (nI k))] [aI (nI k - nI 1), aR 8 0] S1 0 0
        rw [q_sub k1]
        refine e_walk (stops := [37]) 20 ?_
        refine And.intro (q_in (n := k) (L := 6) rfl (by omega) (by decide)) ?_
        show e_Run tb_X4_save post e_no 37 [some (aR 0 0), some (aR 1 (a 0)), some (aI (nI k))] [aO (mR S1 8 0 (nI k).toNatClampNeg), aI (nI (k - 1)), aR 8 0] S1 0 0
        rw [nI_clamp (by omega), hr k (by omega), if_neg (by omega)]
        refine e_walk (stops := [18]) 20 ?_
        refine And.intro (q_in (n := k - 1) (L := 6) rfl (by omega) (by decide)) (And.intro (fun q z => by cases z) ?_)
        show e_Run tb_X4_save post e_no 18 [some (aR 0 0), some (aR 1 (a 0)), some (aI (nI k + 1))] [] (sR S1 8 0 (nI (k - 1)).toNatClampNeg (some (1, a k))) 0 0
        rw [nI_clamp (by omega), nI_1]
        refine ih (k + 1) (by omega) (by omega) _ eI eL (fun k2 i2 hk2 => (e_u3_ne (fun z => by cases z; exact hk2 ⟨rfl, rfl⟩)).trans (eR k2 i2 hk2)) (fun j hj => ?_)
        show e_u3 (mR S1) 8 0 (k - 1) (some (1, a k)) 8 0 j = _
        by_cases c : j = k - 1
        · rw [if_pos (by omega), show j + 1 = k by omega]
          exact if_pos ⟨rfl, rfl, c⟩
        · refine (if_neg (fun z => c z.2.2)).trans ((hr j hj).trans ?_)
          by_cases c2 : j + 1 < k
          · rw [if_pos c2, if_pos (by omega)]
          · rw [if_neg c2, if_neg (by omega)]
    refine e_walk (stops := [15]) 20 ?_
    refine And.intro (q_in (n := 0) (L := 6) rfl (by decide) (by decide)) ?_
    show e_Run tb_X4_save post e_no 15 [some (aR 0 0), none, none] [aO (mR S 8 0 (nI 0).toNatClampNeg)] S 0 0
    rw [nI_clamp (by decide), (h3 0 (by decide)).1]
    refine e_walk (stops := [18]) 20 ?_
    exact loop 5 1 rfl (by decide) S rfl rfl (fun _ _ _ => rfl) (fun j hj => by rw [if_neg (by omega)]; exact (h3 j hj).1)
end Save
