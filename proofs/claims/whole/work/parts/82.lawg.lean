/-! The law: walks by pieces of the table; a call on both sides as a walk. Own work. -/
section Law6
/-- a walk by a piece of the table -/
theorem e_walkS {tb1 tb2 : eTb} {stops : List Nat} {Qc : eQ} {Qx : eX} (hs : ∀ x ∈ tb1, x ∈ tb2) (n : Nat) {pc : Nat} {lc : List (Option eV)} {st : List eV} {S : eM} {bc bs : Nat} (h : e_go tb1 stops Qc Qx (e_Run tb2 Qc Qx) n pc lc st S bc bs) : e_Run tb2 Qc Qx pc lc st S bc bs := by
  intro Wp h1 h2
  have key : ∀ n pc lc st S bc bs, e_go tb1 stops Qc Qx (e_Run tb2 Qc Qx) n pc lc st S bc bs → Wp pc lc st S bc bs := by
    intro n
    induction n with
    | zero => exact fun pc lc st S bc bs h => h Wp h1 h2
    | succ n ih =>
      intro pc lc st S bc bs h
      unfold e_go at h
      cases hf : e_fd tb1 pc with
      | none => rw [hf] at h; exact h.elim
      | some T =>
        rw [hf] at h
        refine h1 _ (hs _ (e_fd_of hf)) _ (fun pc2 lc2 st2 S2 bc2 bs2 hk => ?_) lc st S bc bs h
        cases hz : e_mem stops pc2 with
        | true => rw [hz] at hk; exact hk Wp h1 h2
        | false => rw [hz] at hk; exact ih _ _ _ _ _ _ hk
  exact key n pc lc st S bc bs h
variable {S : eM} {v sp : qV} {sv : Nat → qV} {sn ln : Nat} {tk : Bool} {tx : Nat → Int32} {B : Nat}
/-- the answer's row is no part of either side -/
theorem q_Y.out {a : Int64} (h : q_Y S v sv sn sp tk tx ln B) : q_Y (sL S 15 0 0 a) v sv sn sp tk tx ln B := h
theorem q_M.out {a : Int64} (h : q_M S v sv sn sp tk tx ln) : q_M (sL S 15 0 0 a) v sv sn sp tk tx ln := h
theorem q_cmp0 {a b : Int64} (h : a = b) : lg_cmp a b = 0 := by
  subst h
  unfold lg_cmp
  rw [if_neg (by simp [Int64.lt_iff_toInt_lt]), if_pos rfl]
theorem q_e0 {e : Nat} (h : e ≤ 2) (z : nI e = 0) : e = 0 := (nI_eq (by omega) (by decide)).mp z
/-- the law's variables: the script, the system, the reference, the answer's row, the place in the script -/
abbrev q_lc (i : Int32) (l5 l6 l7 l8 : Option eV) : List (Option eV) := [some (aR 23 0), some (aR 0 0), some (aR 13 0), some (aR 15 0), some (aI i), l5, l6, l7, l8]
/-- behind a case -/
def q_nx (R : eK) (i : Int32) (B bc bs : Nat) : Prop := ∀ (S2 : eM) (v2 : qV) (sv2 : Nat → qV) (sn2 : Nat) (sp2 : qV) (tk2 : Bool) (tx2 : Nat → Int32) (ln2 : Nat) (l5 l6 l7 l8 : Option eV) (bc2 bs2 : Nat), q_Y S2 v2 sv2 sn2 sp2 tk2 tx2 ln2 (B + 61) → q_M S2 v2 sv2 sn2 sp2 tk2 tx2 ln2 → bc ≤ bc2 + 64 → bs ≤ bs2 + 4480 → R 1863 (q_lc i l5 l6 l7 l8) [] S2 bc2 bs2
/-- behind the system's call, as the law tells its end -/
def q_th (S : eM) (B : Nat) (w5 : eM → eQ → Prop) (post : eQ) : Prop := ∀ (e : Nat) (S2 : eM) (r : Int32) (v2 : qV) (sv2 : Nat → qV) (sn2 : Nat) (sp2 : qV) (tk2 : Bool) (tx2 : Nat → Int32) (ln2 : Nat), e ≤ 2 → q_Y S2 v2 sv2 sn2 sp2 tk2 tx2 ln2 (B + 61) → (e = 0 → mL S2 15 0 0 = r.toInt64) → (∀ p5 : eQ, (∀ S3 r2, q_fm S2 S3 → q_M S3 v2 sv2 sn2 sp2 tk2 tx2 ln2 → mI S3 13 0 8 = nI e → (e = 0 → r2 = r) → p5 (some (aI r2)) S3) → w5 S2 p5) → post (some (aI (nI e))) S2
theorem q_2_run {N : Nat} {c1 c2 : String} {xc : eQ → eX → Prop} {w5 : eM → eQ → Prop} {post : eQ} (q : q_2 N S v sv sn sp tk tx ln B c1 c2 xc w5) (hM : q_M S v sv sn sp tk tx ln) (hN : N ≤ 2) (ht : q_th S B w5 post)
    (P : eQ) (X : eX) (g1 : ∀ S2, post (some (aI 1)) S2 → X c1 S2) (g2 : N = 2 → ∀ S2, post (some (aI 2)) S2 → X c2 S2) (g0 : ∀ r S2, post (some (aI 0)) (sL S2 15 0 0 r.toInt64) → P (some (aI r)) S2) : xc P X := by
  obtain ⟨e, r, v2, sv2, sn2, sp2, tk2, tx2, ln2, hE, hx, hn, h5⟩ := q
  refine hx P X (fun e1 => ?_) (fun e2 => ?_) (fun e0 S2 w y => ?_)
  · subst e1
    exact g1 S (ht 1 S r _ _ _ _ _ _ _ (by decide) (hn (by decide)) (fun z => absurd z (by decide)) (fun p5 h => h5 S p5 hM h))
  · subst e2
    exact g2 (by omega) S (ht 2 S r _ _ _ _ _ _ _ (by decide) (hn (by decide)) (fun z => absurd z (by decide)) (fun p5 h => h5 S p5 hM h))
  · subst e0
    exact g0 r S2 (ht 0 (sL S2 15 0 0 r.toInt64) r _ _ _ _ _ _ _ (by decide) y.out (fun _ => (e_u3_eq : e_u3 (mL S2) 15 0 0 r.toInt64 15 0 0 = r.toInt64)) (fun p5 h => h5 _ p5 (hM.w w).out h))
/-- the script's end -/
theorem q_lx {L a : Nat} (hL : L ≤ 2048) (ha : a ≤ 4096) : Int32.ofNat L - 4 < nI a ↔ L < a + 4 := by
  have e1 : (Int32.ofNat L).toInt = (L : Int) := nI_toInt (n := L) (by omega)
  have e2 : (nI a).toInt = (a : Int) := nI_toInt (by omega)
  have e4 : (4 : Int32).toInt = 4 := by decide
  rw [Int32.lt_iff_toInt_lt, Int32.toInt_sub, e1, e2, e4, Int.bmod_eq_of_le (by omega) (by omega)]
  omega
end Law6
