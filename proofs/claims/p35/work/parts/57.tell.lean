/-! What walks come to: the line-up told, a march's part of the hash, the hash. Own work. -/
section Tell
variable {S S1 S2 S3 : eM} {post : eQ} {v : qV} {B b np ni nl : Nat}
/-- but for the line-up, builders and their rows all is as it was -/
def q_g (S S2 : eM) : Prop := (∀ k i, ¬ (k = 9 ∧ i = 0) → k ≠ 10 → k ≠ 11 → mI S2 k i = mI S k i) ∧ ∀ k i, k ≠ 10 → k ≠ 11 → mR S2 k i = mR S k i ∧ mL S2 k i = mL S k i
theorem q_g.rf : q_g S S := ⟨fun _ _ _ _ _ => rfl, fun _ _ _ _ => ⟨rfl, rfl⟩⟩
theorem q_g.trans (h : q_g S S1) (g : q_g S1 S2) : q_g S S2 := ⟨fun k i a c d => (g.1 k i a c d).trans (h.1 k i a c d), fun k i c d => ⟨(g.2 k i c d).1.trans (h.2 k i c d).1, (g.2 k i c d).2.trans (h.2 k i c d).2⟩⟩
theorem q_g.f9 (h : q_f1 9 0 S S2) : q_g S S2 := ⟨fun k i a _ _ => h.1 k i a, fun k i _ _ => ⟨congrFun (congrFun h.2.1 k) i, congrFun (congrFun h.2.2 k) i⟩⟩
theorem q_g.fx (h : q_fx S S2) : q_g S S2 := ⟨fun k i _ c d => (h k i c d).1, fun k i c d => (h k i c d).2⟩
theorem q_B.g (h : q_B S b v np ni nl) (f : q_g S S2) : q_B S2 b v np ni nl := by
  have e1 : ∀ i, mI S2 1 i = mI S 1 i := fun i => f.1 1 i (by omega) (by omega) (by omega)
  have e2 : ∀ i, mI S2 2 i = mI S 2 i := fun i => f.1 2 i (by omega) (by omega) (by omega)
  have e3 : ∀ i, mI S2 3 i = mI S 3 i := fun i => f.1 3 i (by omega) (by omega) (by omega)
  have e6 : ∀ i, mI S2 6 i = mI S 6 i := fun i => f.1 6 i (by omega) (by omega) (by omega)
  have e7 : ∀ i, mI S2 7 i = mI S 7 i := fun i => f.1 7 i (by omega) (by omega) (by omega)
  unfold q_B q_P q_I
  simp only [e1, e2, e3, e6, e7]
  exact h
theorem q_T1.f9 {s i ln : Nat} {f : Nat → Int32} (h : q_T1 S s i f ln) (g : q_f1 9 0 S S2) : q_T1 S2 s i f ln := by
  have e0 : mI S2 10 s = mI S 10 s := g.1 10 s (by omega)
  have e1 : mI S2 11 i = mI S 11 i := g.1 11 i (by omega)
  unfold q_T1
  rw [g.2.1, e0, e1]
  exact h
theorem q_T1.cg {s i ln : Nat} {f g : Nat → Int32} (h : q_T1 S s i f ln) (e : ∀ j, j < ln → f j = g j) : q_T1 S s i g ln := ⟨h.1, h.2.1, h.2.2.1, h.2.2.2.1, h.2.2.2.2.1, fun j hj => (h.2.2.2.2.2 j hj).trans (e j hj)⟩
/-- a figure's worth -/
def q_fg (x : Int32) : Int32 := if x < 48 then -1 else if 57 < x then -1 else x - 48
theorem q_X4_nameOf {c : Nat} (hc : c < 4) (h : post (some (aR 20 c)) S) : w_X4_nameOf [aI (nI c)] S post := by
  refine e_walk (stops := []) 20 ?_
  rcases (show c = 0 ∨ c = 1 ∨ c = 2 ∨ c = 3 by omega) with rfl | rfl | rfl | rfl
  · exact And.intro (fun _ => h) (fun c => absurd rfl c)
  · exact And.intro (fun c => absurd c (by decide)) (fun _ => And.intro (fun _ => h) (fun c => absurd rfl c))
  · exact And.intro (fun c => absurd c (by decide)) (fun _ => And.intro (fun c => absurd c (by decide)) (fun _ => And.intro (fun _ => h) (fun c => absurd rfl c)))
  · exact And.intro (fun c => absurd c (by decide)) (fun _ => And.intro (fun c => absurd c (by decide)) (fun _ => And.intro (fun c => absurd c (by decide)) (fun _ => h)))
theorem q_tl_35 : ∀ m, m < 4 → q_tl m 4 0 ≤ 35 := by decide
theorem q_nl_sl : ∀ c, c < 4 → e_sl.getD c 0 = q_nl c := by decide
/-- a line-up half told: d parts are left, from part k on, and ln signs are told -/
def q_tI (v : qV) (m np k d ln : Nat) : Prop := (0 < k → 0 < d → q_ch v m np 4 0 ln = 44) ∧ (0 < d → ∀ l, q_ch v m np 4 0 (ln + min k 1 + l) = q_ch v m np d k l) ∧ ln + min (min k 1) d + q_tl m d k = q_tl m 4 0
theorem q_tI_0 {m : Nat} : q_tI v m np 0 4 0 := ⟨fun z => absurd z (by decide), fun _ l => by rw [show 0 + min 0 1 + l = l by omega], by omega⟩
theorem q_tI_next {m k d ln L : Nat} (h : q_tI v m np k (d + 1) ln) (hk : k + d = 3) (hL : L = ln + min k 1) : q_tI v m np (k + 1) d (L + q_nl (q_kf m k) + 2) ∧ ∀ l, q_ch v m np 4 0 (L + l) = q_ch v m np (d + 1) k l := by
  obtain ⟨-, h2, h3⟩ := h
  have h2 := h2 (by omega)
  have hF : ∀ l, q_ch v m np 4 0 (L + l) = q_ch v m np (d + 1) k l := fun l => by rw [hL]; exact h2 l
  rw [q_tl] at h3
  refine ⟨⟨fun _ hd => ?_, fun hd l => ?_, ?_⟩, hF⟩
  · rw [show L + q_nl (q_kf m k) + 2 = L + (q_nl (q_kf m k) + 2) by omega, hF, q_ch, if_neg (by omega), if_neg (by omega), if_neg (by omega), if_pos ⟨rfl, by omega⟩]
  · rw [show L + q_nl (q_kf m k) + 2 + min (k + 1) 1 + l = L + (q_nl (q_kf m k) + 3 + l) by omega, hF, q_ch, if_neg (by omega), if_neg (by omega), if_neg (by omega), if_neg (by omega), show q_nl (q_kf m k) + 3 + l - (q_nl (q_kf m k) + 3) = l by omega]
  · by_cases c : k < 3
    · rw [if_pos c] at h3; omega
    · rw [if_neg c] at h3; omega
theorem q_ch_a {m d k l : Nat} (h : l < q_nl (q_kf m k)) : q_ch v m np (d + 1) k l = q_lt (q_kf m k) l := by
  rw [q_ch, if_pos h]
theorem q_ch_b {m d k : Nat} : q_ch v m np (d + 1) k (q_nl (q_kf m k)) = 58 := by
  rw [q_ch, if_neg (by omega), if_pos rfl]
theorem q_ch_c {m d k : Nat} : q_ch v m np (d + 1) k (q_nl (q_kf m k) + 1) = if q_pl v m np k = -1 then 45 else 48 + q_pl v m np k := by
  rw [q_ch, if_neg (by omega), if_neg (by omega), if_pos rfl]
theorem q_X4_tellLineUp {m i io ln lo : Nat} {f g : Nat → Int32} (hv : q_ok0 v np ni) (hl : q_lips v np) (hB : q_B S 0 v np ni nl) (hm : m < 4) (hT : q_T1 S 0 i f ln) (hO : q_T1 S 1 io g lo) (hio : i ≠ io) (h : ∀ S2 i2, q_g S S2 → i2 ≠ io → q_T1 S2 0 i2 (q_ch v m np 4 0) (q_tl m 4 0) → q_T1 S2 1 io g lo → post none S2) : w_X4_tellLineUp [aR 0 0, aI (nI m)] S post := by
  have h35 := q_tl_35 m hm
  refine e_walk (stops := [5]) 20 ?_
  refine q_X4_fillLineUp hv hl hB hm (fun S1 f1 hpl => ?_)
  have loop : ∀ d k, k + d = 4 → ∀ S2 i2 n bc bs, q_fx S1 S2 → i2 ≠ io → q_T1 S2 0 i2 (q_ch v m np 4 0) n → q_T1 S2 1 io g lo → q_tI v m np k d n → 4 * d ≤ bc + (1 - k) → 70 * bc ≤ bs → ∀ l3, e_Run tb_X4_tellLineUp post e_no 16 [some (aR 0 0), some (aI (nI m)), some (aI (nI k)), l3] [] S2 bc bs := by
    intro d
    induction d with
    | zero =>
      intro k hk S2 i2 n bc bs fx hi2 hT2 hO2 hI _ _ l3
      obtain rfl : k = 4 := by omega
      have h3 := hI.2.2
      rw [q_tl] at h3
      obtain rfl : n = q_tl m 4 0 := by omega
      refine e_walk (stops := []) 20 ?_
      exact And.intro (fun _ => h S2 i2 ((q_g.f9 f1).trans (q_g.fx fx)) hi2 hT2 hO2) (fun c => absurd (by decide) c)
    | succ d ih =>
      intro k hk S2 i2 n bc bs fx hi2 hT2 hO2 hI hbc hbs l3
      have hkf : q_kf m k < 4 := Nat.mod_lt _ (by decide)
      obtain ⟨hN, hF⟩ := q_tI_next hI (by omega) rfl
      have hle := hN.2.2
      have part : ∀ S3 i3 bc bs, q_fx S1 S3 → i3 ≠ io → q_T1 S3 0 i3 (q_ch v m np 4 0) (n + min k 1) → q_T1 S3 1 io g lo → 4 * d + 3 ≤ bc → 70 * bc ≤ bs → e_Run tb_X4_tellLineUp post e_no 35 [some (aR 0 0), some (aI (nI m)), some (aI (nI k)), l3] [] S3 bc bs := by
        intro S3 i3 bc bs fx3 hi3 hT3 hO3 hbc hbs
        generalize n + min k 1 = L at *
        refine e_walk (stops := [44]) 20 ?_
        refine q_X4_kindOfPart hm (by omega) ?_
        refine e_walk (stops := [47]) 20 ?_
        refine q_X4_nameOf hkf ?_
        refine e_walk (stops := [50]) 20 ?_
        refine And.intro (by omega) (And.intro (by omega) ?_)
        refine q_J4_appendS hkf (by decide) hT3 hO3 hi3 (by omega) (fun S4 i4 fx4 hi4 hT4 hO4 => ?_)
        rw [q_nl_sl _ hkf] at hT4
        have hT4 : q_T1 S4 0 i4 (q_ch v m np 4 0) (L + q_nl (q_kf m k)) := hT4.cg (fun j hj => by
          unfold q_cat
          by_cases z : L ≤ j
          · rw [if_pos z]
            have e := (hF (j - L)).trans (q_ch_a (by omega))
            rw [show L + (j - L) = j by omega] at e
            exact e.symm
          · rw [if_neg z])
        refine e_walk (stops := [60]) 20 ?_
        refine And.intro (by omega) (And.intro (by omega) ?_)
        refine q_J4_append1 (n := 58) (by decide) hT4 hO4 hi4 (by omega) (by decide) (fun S5 i5 fx5 hi5 hT5 hO5 => ?_)
        have hT5 : q_T1 S5 0 i5 (q_ch v m np 4 0) (L + q_nl (q_kf m k) + 1) := hT5.cg (fun j hj => by
          by_cases z : j = L + q_nl (q_kf m k)
          · rw [z, (hF _).trans q_ch_b, upd, if_pos rfl]
            decide
          · rw [upd, if_neg z])
        have fx05 := (fx3.trans fx4).trans fx5
        refine e_walk (stops := [66]) 20 ?_
        refine q_X4_playerOf (by omega) ?_
        rw [(fx05 9 0 (by decide) (by decide)).1, hpl k (by omega)]
        have hs := (hF (q_nl (q_kf m k) + 1)).trans q_ch_c
        have fin : ∀ S6 i6 bc bs x n6, q_fx S5 S6 → i6 ≠ io → q_T1 S6 0 i6 (upd (q_ch v m np 4 0) (L + q_nl (q_kf m k) + 1) (nI n6)) (L + q_nl (q_kf m k) + 1 + 1) → q_T1 S6 1 io g lo → 4 * d ≤ bc → 70 * bc ≤ bs → nI n6 = q_ch v m np 4 0 (L + (q_nl (q_kf m k) + 1)) → e_Run tb_X4_tellLineUp post e_no 16 [some (aR 0 0), some (aI (nI m)), some (aI (nI (k + 1))), some (aI x)] [] S6 bc bs := fun S6 i6 bc bs x n6 fx6 hi6 hT6 hO6 hbc hbs e6 => by
          refine ih (k + 1) (by omega) S6 i6 (L + q_nl (q_kf m k) + 2) bc bs (fx05.trans fx6) hi6 (hT6.cg (fun j hj => ?_)) hO6 hN (by omega) hbs _
          by_cases z : j = L + q_nl (q_kf m k) + 1
          · rw [z, upd, if_pos rfl, e6]; rfl
          · rw [upd, if_neg z]
        rcases q_pl_could v m np k with y | ⟨p, y1, y2, y3⟩
        · rw [y]
          rw [y, if_pos rfl] at hs
          refine e_walk (stops := [81]) 20 ?_
          refine And.intro (fun _ => And.intro (by omega) (And.intro (by omega) ?_)) (fun c => absurd rfl c)
          refine q_J4_append1 (n := 45) (by decide) hT5 hO5 hi5 (by omega) (by decide) (fun S6 i6 fx6 hi6 hT6 hO6 => ?_)
          refine e_walk (stops := [16]) 20 ?_
          show e_Run tb_X4_tellLineUp post e_no 16 [some (aR 0 0), some (aI (nI m)), some (aI (nI k + 1)), some (aI (-1))] [] S6 _ _
          rw [nI_1]
          exact fin S6 i6 _ _ _ 45 fx6 hi6 hT6 hO6 (by omega) (by omega) (by rw [hs]; decide)
        · have hnp := hv.1
          have hne : ¬ nI p = (-1 : Int32) := q_nIne (by omega)
          rw [y2]
          rw [y2, if_neg hne] at hs
          refine e_walk (stops := [93]) 20 ?_
          refine And.intro (fun c => absurd c hne) (fun _ => And.intro (by omega) (And.intro (by omega) ?_))
          refine q_J4_appendI (p := p) (by omega) (by decide) hT5 hO5 hi5 (by omega) (fun S6 i6 fx6 hi6 hT6 hO6 => ?_)
          refine e_walk (stops := [16]) 20 ?_
          show e_Run tb_X4_tellLineUp post e_no 16 [some (aR 0 0), some (aI (nI m)), some (aI (nI k + 1)), some (aI (nI p))] [] S6 _ _
          rw [nI_1]
          exact fin S6 i6 _ _ _ (48 + p) fx6 hi6 hT6 hO6 (by omega) (by omega) (by rw [hs]; exact (nI_add 48 p).symm)
      have hlt : ¬ nI 4 ≤ nI k := nI_ge (by omega) (by decide)
      by_cases k0 : k = 0
      · subst k0
        refine e_walk (stops := [35]) 20 ?_
        refine And.intro (fun c => absurd c (by decide)) (fun _ => And.intro (fun _ => ?_) (fun c => absurd (by decide) c))
        exact part S2 i2 bc bs fx hi2 hT2 hO2 (by omega) hbs
      · refine e_walk (stops := [34]) 20 ?_
        refine And.intro (fun c => absurd c hlt) (fun _ => And.intro (fun c => absurd c ?_) (fun _ => And.intro (by omega) (And.intro (by omega) ?_)))
        · exact nI_ge (a := 0) (by omega) (by omega)
        refine q_J4_append1 (n := 44) (by decide) hT2 hO2 hi2 (by omega) (by decide) (fun S3 i3 fx3 hi3 hT3 hO3 => ?_)
        have e44 := hI.1 (by omega) (by omega)
        refine e_walk (stops := [35]) 20 ?_
        refine part S3 i3 _ _ (fx.trans fx3) hi3 ?_ hO3 (by omega) (by omega)
        rw [show n + min k 1 = n + 1 by omega]
        exact hT3.cg (fun j hj => by
          by_cases z : j = n
          · rw [z, e44, upd, if_pos rfl]; decide
          · rw [upd, if_neg z])
  refine e_walk (stops := [14]) 20 ?_
  refine q_J4_clear (by decide) (hT.f9 f1) (hO.f9 f1) hio (fun S2 i2 fx hi2 hT2 hO2 => ?_)
  refine e_walk (stops := [16]) 20 ?_
  exact loop 4 0 rfl S2 i2 0 _ _ fx hi2 (hT2.cg (fun j hj => absurd hj (Nat.not_lt_zero j))) hO2 q_tI_0 (by decide) (by decide) _
end Tell
