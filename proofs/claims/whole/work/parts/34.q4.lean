/-! What walks come to, 4: what the reference tells as a text; its share. Own work. -/
section RefTold
variable {S S2 : eM} {v v2 sp : qV} {sv : Nat → qV} {sn ln : Nat} {tk : Bool} {tx : Nat → Int32}
def q_nl (c : Nat) : Nat := if c = 0 then 6 else if c = 2 then 8 else 4
def q_lt (c l : Nat) : Int32 := (e_sb.getD c []).getD l 0
theorem q_X5_lengthOfName {post : eQ} {c : Nat} (hc : c < 4) (h : post (some (aI (nI (q_nl c)))) S) : w_X5_lengthOfName [aI (nI c)] S post := by
  refine e_walk (stops := []) 20 ?_
  rcases (show c = 0 ∨ c = 1 ∨ c = 2 ∨ c = 3 by omega) with rfl | rfl | rfl | rfl
  · exact And.intro (fun c => h) (fun c => absurd rfl c)
  · exact And.intro (fun c => absurd c (by decide)) (fun c => And.intro (fun c => absurd c (by decide)) (fun c => h))
  · exact And.intro (fun c => absurd c (by decide)) (fun c => And.intro (fun c => h) (fun c => absurd rfl c))
  · exact And.intro (fun c => absurd c (by decide)) (fun c => And.intro (fun c => absurd c (by decide)) (fun c => h))
theorem q_X5_letterOf {post : eQ} {c l : Nat} (hc : c < 4) (hl : l < q_nl c) (h : post (some (aI (q_lt c l))) S) : w_X5_letterOf [aI (nI c), aI (nI l)] S post := by
  have fin : ∀ (N : Int64), (N >>> (((8 : Int32) * (nI (q_nl c) - 1 - nI l)).toInt64 &&& 63) &&& 255).toInt32 = q_lt c l → e_Run tb_X5_letterOf post e_no 35 [some (aI (nI c)), some (aI (nI l)), none, none] [aL N] S 0 0 := by
    intro N hN
    refine e_walk (stops := [43]) 20 ?_
    refine q_X5_lengthOfName hc ?_
    refine e_walk (stops := []) 30 ?_
    show post (some (aI (N >>> (((8 : Int32) * (nI (q_nl c) - 1 - nI l)).toInt64 &&& 63) &&& 255).toInt32)) S
    rw [hN]
    exact h
  rcases (show c = 0 ∨ c = 1 ∨ c = 2 ∨ c = 3 by omega) with rfl | rfl | rfl | rfl
  · have key : ∀ l, l < 6 → ((109330312357236 : Int64) >>> (((8 : Int32) * (nI (q_nl 0) - 1 - nI l)).toInt64 &&& 63) &&& 255).toInt32 = q_lt 0 l := by decide +kernel
    refine e_walk (stops := [35]) 20 ?_
    exact And.intro (fun c => fin _ (key l hl)) (fun c => absurd rfl c)
  · have key : ∀ l, l < 4 → ((1752134254 : Int64) >>> (((8 : Int32) * (nI (q_nl 1) - 1 - nI l)).toInt64 &&& 63) &&& 255).toInt32 = q_lt 1 l := by decide +kernel
    refine e_walk (stops := [35]) 20 ?_
    exact And.intro (fun c => absurd c (by decide)) (fun c => And.intro (fun c => fin _ (key l hl)) (fun c => absurd rfl c))
  · have key : ∀ l, l < 8 → ((7089073085708463717 : Int64) >>> (((8 : Int32) * (nI (q_nl 2) - 1 - nI l)).toInt64 &&& 63) &&& 255).toInt32 = q_lt 2 l := by decide +kernel
    refine e_walk (stops := [35]) 20 ?_
    exact And.intro (fun c => absurd c (by decide)) (fun c => And.intro (fun c => absurd c (by decide)) (fun c => And.intro (fun c => fin _ (key l hl)) (fun c => absurd rfl c)))
  · have key : ∀ l, l < 4 → ((1953849953 : Int64) >>> (((8 : Int32) * (nI (q_nl 3) - 1 - nI l)).toInt64 &&& 63) &&& 255).toInt32 = q_lt 3 l := by decide +kernel
    refine e_walk (stops := [35]) 20 ?_
    exact And.intro (fun c => absurd c (by decide)) (fun c => And.intro (fun c => absurd c (by decide)) (fun c => And.intro (fun c => absurd c (by decide)) (fun c => fin _ (key l hl))))
/-- a sign of a line-up told: d parts are left, from part k on, and l signs to go -/
def q_ch (v : qV) (m np : Nat) : Nat → Nat → Nat → Int32
  | 0, _, _ => -1
  | d + 1, k, l => if l < q_nl (q_kf m k) then q_lt (q_kf m k) l else if l = q_nl (q_kf m k) then 58 else if l = q_nl (q_kf m k) + 1 then (if q_pl v m np k = -1 then 45 else 48 + q_pl v m np k) else if l = q_nl (q_kf m k) + 2 ∧ k < 3 then 44 else q_ch v m np d (k + 1) (l - (q_nl (q_kf m k) + 3))
theorem q_X5_charOf {post : eQ} {np ni m l : Nat} (hv : q_ok0 (mI S 14 0) np ni) (hm : m < 4) (hl : l < 2 ^ 31) (h : ∀ S2, q_fr1 5 S S2 → post (some (aI (q_ch (mI S 14 0) m np 4 0 l))) S2) : w_X5_charOf [aR 13 0, aI (nI m), aI (nI l)] S post := by
  refine e_walk (stops := [5]) 20 ?_
  refine q_X5_lineUp hv hm (fun S1 f1 h1 => ?_)
  have h := h S1 f1
  have loop : ∀ d k, k + d = 4 → ∀ (l : Nat) (x : Int32), (d = 0 ∨ x = nI l) → l < 2 ^ 31 → post (some (aI (q_ch (mI S 14 0) m np d k l))) S1 → ∀ l5 l6 i, e_Run tb_X5_charOf post e_no 11 [some (aR 13 0), some (aI (nI m)), some (aI i), some (aI x), some (aI (nI k)), l5, l6] [] S1 0 0 := by
    intro d
    induction d with
    | zero =>
      intro k hk l x _ _ h l5 l6 i
      obtain rfl : k = 4 := by omega
      refine e_walk (stops := []) 20 ?_
      exact And.intro (fun c => h) (fun c => absurd (show (4 : Int32) ≤ nI 4 by decide) c)
    | succ d ih =>
      intro k hk l x hx hl h l5 l6 i
      have hx : x = nI l := hx.resolve_left (by omega)
      subst hx
      have hk4 : k < 4 := by omega
      have ek : (nI k).toNatClampNeg = k := nI_clamp (by omega)
      rw [q_ch] at h
      have hkf : q_kf m k < 4 := Nat.mod_lt _ (by decide)
      generalize hq : q_kf m k = cc at *
      have hn8 : q_nl cc ≤ 8 := by
        unfold q_nl
        split
        · decide
        · split <;> decide
      refine e_walk (stops := [23]) 20 ?_
      refine And.intro (fun c => absurd c (nI_ge (a := k) (b := 4) (by omega) (by decide))) (fun c => ?_)
      refine q_X5_kindFor hm hk4 ?_
      rw [hq]
      refine e_walk (stops := [30]) 20 ?_
      refine q_X5_lengthOfName hkf ?_
      refine e_walk (stops := [11, 44]) 60 ?_
      refine And.intro (fun c1 => ?_) (fun c1 => ?_)
      · have g1 : ¬ l < q_nl cc := Nat.not_lt.mpr ((nI_leI (by omega) hl).mp c1)
        rw [if_neg g1] at h
        refine And.intro (fun c2 => ?_) (fun c2 => ?_)
        · have g2 : l = q_nl cc := (nI_eq hl (by omega)).mp c2
          rw [if_pos g2] at h
          exact h
        · have g2 : ¬ l = q_nl cc := fun z => c2 (by rw [z])
          rw [if_neg g2] at h
          have e1 : nI (q_nl cc) + 1 = nI (q_nl cc + 1) := nI_1 _
          have e2 : nI (q_nl cc) + 2 = nI (q_nl cc + 2) := nI_add _ 2
          refine And.intro (fun c3 => ?_) (fun c3 => ?_)
          · have g3 : l = q_nl cc + 1 := (nI_eq hl (by omega)).mp ((show nI l = nI (q_nl cc) + 1 from c3).trans e1)
            rw [if_pos g3] at h
            have hp : mI S1 14 5 (nI k).toNatClampNeg = q_pl (mI S 14 0) m np k := by rw [ek]; exact h1 k hk4
            refine And.intro (q_in (n := k) rfl (show k < 4 from hk4) (by decide)) ?_
            refine And.intro (fun c4 => ?_) (fun c4 => ?_)
            · rw [if_pos (hp.symm.trans c4)] at h
              exact h
            · rw [if_neg (fun z => c4 (hp.trans z))] at h
              refine And.intro (q_in (n := k) rfl (show k < 4 from hk4) (by decide)) ?_
              show post (some (aI (48 + mI S1 14 5 (nI k).toNatClampNeg))) S1
              rw [hp]
              exact h
          · have g3 : ¬ l = q_nl cc + 1 := fun z => c3 (by rw [z]; exact e1.symm)
            rw [if_neg g3] at h
            refine And.intro (fun c4 => ?_) (fun c4 => ?_)
            · have g4 : l = q_nl cc + 2 := (nI_eq hl (by omega)).mp ((show nI l = nI (q_nl cc) + 2 from c4).trans e2)
              refine And.intro (fun c5 => ?_) (fun c5 => ?_)
              · have g5 : 3 ≤ k := (nI_leI (a := 3) (by decide) (by omega)).mp c5
                rw [if_neg (fun z => by omega)] at h
                show e_Run tb_X5_charOf post e_no 11 [some (aR 13 0), some (aI (nI m)), some (aI i), some (aI (nI l - (nI (q_nl cc) + 3))), some (aI (nI k + 1)), some (aI (nI cc)), some (aI (nI (q_nl cc)))] [] S1 0 0
                rw [nI_1]
                exact ih (k + 1) (by omega) _ _ (Or.inl (by omega)) (by omega) h _ _ _
              · have g5 : k < 3 := Nat.not_le.mp (fun z => c5 (nI_le (a := 3) z (by omega)))
                rw [if_pos ⟨g4, g5⟩] at h
                exact h
            · have g4 : ¬ l = q_nl cc + 2 := fun z => c4 (by rw [z]; exact e2.symm)
              rw [if_neg (fun z => g4 z.1)] at h
              have e3 : nI l - (nI (q_nl cc) + 3) = nI (l - (q_nl cc + 3)) := by
                rw [show nI (q_nl cc) + 3 = nI (q_nl cc + 3) from nI_add _ 3, show nI l = nI (l - (q_nl cc + 3)) + nI (q_nl cc + 3) by rw [nI_add]; congr 1; omega, Int32.add_sub_cancel]
              show e_Run tb_X5_charOf post e_no 11 [some (aR 13 0), some (aI (nI m)), some (aI i), some (aI (nI l - (nI (q_nl cc) + 3))), some (aI (nI k + 1)), some (aI (nI cc)), some (aI (nI (q_nl cc)))] [] S1 0 0
              rw [nI_1, e3]
              exact ih (k + 1) (by omega) _ _ (Or.inr rfl) (by omega) h _ _ _
      · have g1 : l < q_nl cc := Nat.not_le.mp (fun z => c1 (nI_le z hl))
        rw [if_pos g1] at h
        refine q_X5_letterOf hkf g1 ?_
        refine e_walk (stops := []) 5 ?_
        exact h
  refine e_walk (stops := [11]) 20 ?_
  exact loop 4 0 rfl l (nI l) (Or.inr rfl) hl h _ _ _
end RefTold
section RefTold2
variable {S S2 : eM} {v v2 sp : qV} {sv : Nat → qV} {sn ln : Nat} {tk : Bool} {tx : Nat → Int32}
def q_toldE (x y : Int32) : Nat := cond (q_ix x 4) (if y < 0 then 2 else 0) 1
theorem q_toldE_lt {x y : Int32} : q_toldE x y < 65536 := by
  unfold q_toldE
  cases q_ix x 4 with
  | false => exact (by decide : 1 < 65536)
  | true => show (if _ then 2 else 0) < _; split <;> decide
theorem q_X5_told {post : eQ} {np ni : Nat} {x y : Int32} (hM : q_M S v sv sn sp tk tx ln) (hv : q_ok0 v np ni) (h : q_tel S v sv sn sp tk tx ln post (q_toldE x y) (q_ch v x.toNatClampNeg np 4 0 y.toNatClampNeg)) : w_X5_told [aR 13 0, aI x, aI y] S post := by
  have fin : ∀ e : Nat, e = q_toldE x y → e_Run tb_X5_told post e_no 21 [some (aR 13 0), some (aI x), some (aI y)] [aI (nI e), aR 13 0] S 0 0 := by
    intro e he
    refine e_walk (stops := [24]) 1 ?_
    refine q_M_holds hM (by rw [he]; exact q_toldE_lt) (fun S1 f1 m1 t1 => ?_)
    rw [he] at t1 ⊢
    refine e_walk (stops := [33]) 20 ?_
    by_cases z : q_toldE x y = 0
    · have z' := z
      rw [decide_eq_true z]
      unfold q_toldE at z
      cases z1 : q_ix x 4 with
      | false => rw [z1] at z; exact absurd (show (1 : Nat) = 0 from z) (by decide)
      | true =>
        rw [z1] at z
        have hy : ¬ y < 0 := fun y0 => by
          have z : (if y < 0 then 2 else 0) = 0 := z
          rw [if_pos y0] at z
          exact absurd z (by decide)
        obtain ⟨m, hm, rfl⟩ := q_ix_of (by omega) z1
        obtain ⟨l, hl, rfl⟩ := nI_of hy
        rw [nI_clamp (by omega), nI_clamp hl] at h
        refine And.intro (fun c => absurd c (by decide)) (fun c => ?_)
        refine q_X5_charOf (np := np) (ni := ni) (by rw [m1.eqv]; exact hv) hm hl (fun S2 f2 => ?_)
        have h := h S2 (f1.trans (q_fm.of1 f2)) (m1.of5 f2) (by rw [f2.1 13 0 (by decide)]; exact t1)
        rw [decide_eq_true z'] at h
        rw [m1.eqv]
        generalize q_ch v m np 4 0 l = r at h ⊢
        refine e_walk (stops := []) 20 ?_
        exact h
    · have h := h S1 f1 m1 t1
      rw [decide_eq_false z] at h ⊢
      exact And.intro (fun c => h) (fun c => absurd rfl c)
  refine e_walk (stops := [5]) 20 ?_
  refine q_X5_isMarch ?_
  refine e_walk (stops := [21]) 20 ?_
  cases z1 : q_ix x 4 with
  | false => exact And.intro (fun c => fin 1 (by unfold q_toldE; rw [z1]; rfl)) (fun c => absurd rfl c)
  | true =>
    refine And.intro (fun c => absurd c (by decide)) (fun c => ?_)
    refine And.intro (fun c => fin 0 ?_) (fun c => fin 2 ?_)
    · unfold q_toldE; rw [z1]; show 0 = if y < 0 then 2 else 0; rw [if_neg (Int32.not_lt.mpr c)]
    · unfold q_toldE; rw [z1]; show 2 = if y < 0 then 2 else 0; rw [if_pos (Int32.not_le.mp c)]
end RefTold2
section RefShare
variable {S S2 : eM} {v v2 sp : qV} {sv : Nat → qV} {sn ln : Nat} {tk : Bool} {tx : Nat → Int32}
/-- the share of parts that were filled: of mm marches, ss parts short -/
def q_shr (mm ss : Nat) : UInt64 := if mm = 0 then 4607182418800017408 else FP.ddiv (FP.i2d (nI (4 * mm - ss))) (FP.i2d (nI (4 * mm)))
theorem q_sub {a b : Nat} (h : b ≤ a) : nI a - nI b = nI (a - b) := by
  rw [show nI a = nI (a - b) + nI b by rw [nI_add]; congr 1; omega, Int32.add_sub_cancel]
theorem q_X5_shareTold {post : eQ} {mm ss : Nat} (h6 : mI S 14 0 6 = nI mm) (h7 : mI S 14 0 7 = nI ss) (hs : ss ≤ 4 * mm) (hm : 4 * mm < 2 ^ 20) (h : post (some (aD (q_shr mm ss))) S) : w_X5_shareTold [aR 13 0] S post := by
  unfold q_shr at h
  refine e_walk (stops := [8]) 20 ?_
  show e_Run tb_X5_shareTold post e_no 8 [some (aR 13 0), none] [aI (mI S 14 0 6), aI (nI 4)] S 0 0
  rw [h6]
  refine e_walk (stops := [9]) 1 ?_
  show e_Run tb_X5_shareTold post e_no 9 [some (aR 13 0), none] [aI (nI 4 * nI mm)] S 0 0
  rw [nI_mul]
  refine e_walk (stops := [26]) 20 ?_
  refine And.intro (fun c => ?_) (fun c => ?_)
  · have c : 4 * mm = 0 := (nI_eq (by omega) (by decide)).mp c
    rw [if_pos (by omega)] at h
    exact h
  · have c : ¬ mm = 0 := fun z => c (by rw [z]; rfl)
    rw [if_neg c] at h
    show e_Run tb_X5_shareTold post e_no 26 [some (aR 13 0), some (aI (nI (4 * mm)))] [aI (mI S 14 0 7), aI (nI (4 * mm))] S 0 0
    rw [h7]
    refine e_walk (stops := [27]) 1 ?_
    show e_Run tb_X5_shareTold post e_no 27 [some (aR 13 0), some (aI (nI (4 * mm)))] [aI (nI (4 * mm) - nI ss)] S 0 0
    rw [q_sub hs]
    refine e_walk (stops := []) 20 ?_
    exact And.intro (fp_share (by omega) (by omega) (by omega)).1 h
theorem q_X5_played {post : eQ} {mm ss : Nat} (hM : q_M S v sv sn sp tk tx ln) (h6 : v 6 = nI mm) (h7 : v 7 = nI ss) (hs : ss ≤ 4 * mm) (hm : 4 * mm < 2 ^ 20) (h : ∀ S2, q_fm S S2 → q_M S2 v sv sn sp tk tx ln → mI S2 13 0 8 = 0 → post (some (aD (q_shr mm ss))) S2) : w_X5_played [aR 13 0] S post := by
  have m1 : q_M (sI S 13 0 8 0) v sv sn sp tk tx ln := hM.fld (by decide) (by decide) (by decide)
  refine e_walk (stops := [9]) 20 ?_
  refine q_X5_shareTold (mm := mm) (ss := ss) (by rw [m1.eqv]; exact h6) (by rw [m1.eqv]; exact h7) hs hm ?_
  refine e_walk (stops := []) 20 ?_
  exact h _ q_fm.fld m1 (by rw [q_sI, if_pos rfl])
end RefShare
