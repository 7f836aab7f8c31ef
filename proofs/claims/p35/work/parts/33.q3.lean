/-! What walks come to, 3: what the reference tells. Own work. -/
section RefTells
variable {S S2 : eM} {v v2 sp : qV} {sv : Nat → qV} {sn ln : Nat} {tk : Bool} {tx : Nat → Int32}
/-- behind a call that only tells -/
def q_tel (S : eM) (v : qV) (sv : Nat → qV) (sn : Nat) (sp : qV) (tk : Bool) (tx : Nat → Int32) (ln : Nat) (post : eQ) (e : Nat) (r : Int32) : Prop :=
  ∀ S2, q_fm S S2 → q_M S2 v sv sn sp tk tx ln → mI S2 13 0 8 = nI e → post (some (aI (cond (decide (e = 0)) r 0))) S2
def q_pTold (v : qV) (p w : Nat) : Int32 := if w = 4 then q_of v p 4 - 1 else q_of v p w
def q_pOfE (np : Nat) (x y : Int32) : Nat := cond (q_ix x np) (cond (q_ix y 7) 0 2) 1
theorem q_pOfE_lt {np : Nat} {x y : Int32} : q_pOfE np x y < 65536 := by
  unfold q_pOfE
  cases q_ix x np <;> cases q_ix y 7 <;> decide
def q_iTold (v : qV) (i w : Nat) : Int32 := if w = 2 then q_its v i 2 - 1 else if w = 4 then (if q_its v i 2 = 0 then -1 else q_its v i 4) else if w = 5 then cond (decide (q_its v i 1 < 5)) 1 0 else q_its v i w
def q_iOfE (ni : Nat) (x y : Int32) : Nat := cond (q_ix x ni) (cond (q_ix y 6) 0 2) 1
theorem q_iOfE_lt {ni : Nat} {x y : Int32} : q_iOfE ni x y < 65536 := by
  unfold q_iOfE
  cases q_ix x ni <;> cases q_ix y 6 <;> decide
def q_noLoanE (np ni : Nat) (x y : Int32) : Nat := cond (q_ix x ni && q_ix y np) 0 1
def q_noLessonE (np : Nat) (x y : Int32) : Nat := cond (q_ix x np && q_ix y 3) 0 1
def q_marE (x : Int32) : Nat := cond (q_ix x 4) 0 1
end RefTells
section RefTells2
variable {S S2 : eM} {v v2 sp : qV} {sv : Nat → qV} {sn ln : Nat} {tk : Bool} {tx : Nat → Int32}
def q_lTold (v : qV) (k : Nat) : Int32 := if nI k < v 2 then 10 * v (136 + k) + q_its v (v (136 + k)).toNatClampNeg 2 - 1 else -1
def q_loanE (x : Int32) : Nat := if x < 0 then 1 else 0
def q_deb (v : qV) : Nat → Int32
  | 0 => 0
  | p + 1 => q_deb v p + q_of v p 3
def q_cTold (v : qV) (np sn w : Nat) : Int32 := if w = 4 then cond (q_sun v) 1 0 else if w = 8 then v 8 + 1000000 else if w = 9 then v 9 + v 10 - v 11 - v 12 + 1000000 else if w = 14 then q_deb v np else if w = 18 then nI sn else if 10 ≤ w ∧ w < 14 then v (w - 1) else if 15 ≤ w then v (w - 2) else v w
def q_countE (x : Int32) : Nat := cond (q_ix x 19) 0 1
end RefTells2
section RefTells3
variable {S S2 : eM} {v v2 sp : qV} {sv : Nat → qV} {sn ln : Nat} {tk : Bool} {tx : Nat → Int32}
def q_partTold (v : qV) (m np k w : Nat) : Int32 := if w = 3 then q_pl v m np k else if w = 0 then nI (q_kf m k) else if w = 1 then nI (4 + 2 * k) else q_lf m k
def q_partE (x y z : Int32) : Nat := cond (q_ix x 4 && q_ix y 4) (cond (q_ix z 4) 0 2) 1
theorem q_partE_lt {x y z : Int32} : q_partE x y z < 65536 := by
  unfold q_partE
  cases q_ix x 4 <;> cases q_ix y 4 <;> cases q_ix z 4 <;> decide
/-- what a march would bring; the best one of the first n -/
def q_pm (v : qV) (np m : Nat) : Int32 := q_pence v (q_sh v m np 4)
def q_bs (v : qV) (np : Nat) : Nat → Nat
  | 0 => 0
  | n + 1 => if q_pm v np (q_bs v np n) < q_pm v np n then n else q_bs v np n
theorem q_bs_lt (v : qV) (np : Nat) : ∀ n, 0 < n → q_bs v np n < n
  | 0, h => absurd h (by decide)
  | 1, _ => by
    rw [q_bs]
    split
    · exact Nat.one_pos
    · exact (by decide : 0 < 1)
  | n + 2, _ => by
    have := q_bs_lt v np (n + 1) (by omega)
    rw [q_bs]
    split <;> omega
end RefTells3
section RefMost
variable {S S2 : eM} {v v2 sp : qV} {sv : Nat → qV} {sn ln : Nat} {tk : Bool} {tx : Nat → Int32}
theorem q_or (a b : Nat) : nI a ||| nI b = nI (a ||| b) :=
  Int32.toBitVec_inj.1 (show BitVec.ofNat 32 a ||| BitVec.ofNat 32 b = BitVec.ofNat 32 (a ||| b) from BitVec.eq_of_getLsbD_eq (fun i hi => by simp [hi]))
theorem q_and (a b : Nat) : nI a &&& nI b = nI (a &&& b) :=
  Int32.toBitVec_inj.1 (show BitVec.ofNat 32 a &&& BitVec.ofNat 32 b = BitVec.ofNat 32 (a &&& b) from BitVec.eq_of_getLsbD_eq (fun i hi => by simp [hi]))
theorem q_bit {n : Nat} (h : n < 10) : (1 : Int32) <<< (nI n &&& 31) = nI (2 ^ n) := by
  rcases (show n = 0 ∨ n = 1 ∨ n = 2 ∨ n = 3 ∨ n = 4 ∨ n = 5 ∨ n = 6 ∨ n = 7 ∨ n = 8 ∨ n = 9 by omega) with rfl | rfl | rfl | rfl | rfl | rfl | rfl | rfl | rfl | rfl <;> decide
/-- the pupils who could play a part, as bits -/
def q_ply (v : qV) (m k : Nat) : Nat → Nat
  | 0 => 0
  | n + 1 => q_ply v m k n ||| cond (q_could v n m k) (2 ^ n) 0
theorem q_ply_lt (v : qV) (m k : Nat) : ∀ n, q_ply v m k n < 2 ^ n
  | 0 => Nat.one_pos
  | n + 1 => by
    rw [q_ply]
    refine Nat.or_lt_two_pow (Nat.lt_trans (q_ply_lt v m k n) (Nat.pow_lt_pow_right (by decide) (Nat.lt_succ_self n))) ?_
    cases q_could v n m k with
    | true => exact Nat.pow_lt_pow_right (by decide) (Nat.lt_succ_self n)
    | false => exact Nat.two_pow_pos _
/-- how many ones -/
def q_on : Nat → Nat → Nat
  | 0, _ => 0
  | f + 1, a => if a = 0 then 0 else q_on f (a &&& (a - 1)) + 1
end RefMost
section RefMost2
variable {S S2 : eM} {v v2 sp : qV} {sv : Nat → qV} {sn ln : Nat} {tk : Bool} {tx : Nat → Int32}
theorem q_sbit {t k : Nat} (ht : t < 16) (hk : k < 4) : decide (nI t >>> (nI k &&& 31) &&& 1 = 1) = t.testBit k := by
  have key : ∀ t, t < 16 → ∀ k, k < 4 → decide (nI t >>> (nI k &&& 31) &&& 1 = 1) = t.testBit k := by decide +kernel
  exact key t ht k hk
/-- the pupils who could play a part of the set t, of its first k -/
def q_pls (v : qV) (m np t : Nat) : Nat → Nat
  | 0 => 0
  | k + 1 => q_pls v m np t k ||| cond (t.testBit k) (q_ply v m k np) 0
theorem q_pls_lt {v : qV} {m np t : Nat} (hnp : np ≤ 10) : ∀ k, q_pls v m np t k < 1024
  | 0 => by
    show 0 < 1024
    decide
  | k + 1 => by
    rw [q_pls]
    refine Nat.or_lt_two_pow (n := 10) (q_pls_lt hnp k) ?_
    cases t.testBit k with
    | true => exact Nat.lt_of_lt_of_le (q_ply_lt v m k np) (Nat.pow_le_pow_right (by decide) hnp)
    | false => exact Nat.two_pow_pos _
def q_mn (v : qV) (m np t : Nat) : Int32 := 4 - nI (q_on t t) + nI (q_on (q_pls v m np t 4) (q_pls v m np t 4))
/-- the least over the sets of parts below t -/
def q_mos (v : qV) (m np : Nat) : Nat → Int32
  | 0 => 4
  | t + 1 => if q_mn v m np t < q_mos v m np t then q_mn v m np t else q_mos v m np t
end RefMost2
section RefHelps
variable {S S2 : eM} {v v2 sp : qV} {sv : Nat → qV} {sn ln : Nat} {tk : Bool} {tx : Nat → Int32}
theorem q_sh_le (v : qV) (m np : Nat) : ∀ k, q_sh v m np k ≤ k
  | 0 => Nat.le_refl _
  | k + 1 => by
    rw [q_sh]
    have := q_sh_le v m np k
    cases decide (q_pl v m np k = -1) with
    | true => exact Nat.succ_le_succ this
    | false => exact Nat.le_succ_of_le this
theorem q_teach_ok {np ni p t : Nat} (hv : q_ok0 v np ni) : q_ok0 (q_teach v p t) np ni := by
  unfold q_teach
  exact (((((hv.upd (by omega) (fun _ _ => by omega)).upd (by omega) (fun _ _ => by omega)).upd (by omega) (fun _ _ => by omega)).upd (by decide) (fun _ _ => by omega)).upd (by decide) (fun _ _ => by omega)).upd (by decide) (fun _ _ => by omega)
def q_fr3 (S S2 : eM) : Prop := (∀ k i, ¬ (k = 14 ∧ (i = 0 ∨ i = 3 ∨ i = 5)) → mI S2 k i = mI S k i) ∧ mR S2 = mR S ∧ mL S2 = mL S
theorem q_fr3.of1 {S1 : eM} {i0 : Nat} (h : q_fr3 S S1) (k : q_fr1 i0 S1 S2) (hi : i0 = 0 ∨ i0 = 3 ∨ i0 = 5) : q_fr3 S S2 := ⟨fun a b hab => (k.1 a b (fun z => hab ⟨z.1, by rw [z.2]; exact hi⟩)).trans (h.1 a b hab), k.2.1.trans h.2.1, k.2.2.trans h.2.2⟩
def q_hp (v : qV) (m np t p : Nat) : Bool := decide (q_whyLesson v p t = 0) && decide (q_sh (q_teach v p t) m np 4 < q_sh v m np 4)
/-- the first one, of d from p on, whom a lesson helps -/
def q_hl (v : qV) (m np t : Nat) : Nat → Nat → Int32
  | 0, _ => -1
  | d + 1, p => cond (q_hp v m np t p) (nI p) (q_hl v m np t d (p + 1))
end RefHelps
section RefHelps2
variable {S S2 : eM} {v v2 sp : qV} {sv : Nat → qV} {sn ln : Nat} {tk : Bool} {tx : Nat → Int32}
theorem q_fm.of3 (h : q_fr3 S S2) : q_fm S S2 := ⟨fun k i _ h2 => h.1 k i (fun z => h2 z.1), h.2.1, fun _ _ _ => by rw [h.2.2]⟩
theorem q_M.of3 (h : q_M S v sv sn sp tk tx ln) (f : q_fr3 S S2) (e2 : mI S2 14 0 = mI S 14 0) : q_M S2 v sv sn sp tk tx ln := by
  obtain ⟨a, b, c, d, e, g, i⟩ := h
  exact ⟨⟨e2.trans a.1, a.2⟩, by rw [f.1 13 0 (by decide)]; exact b, by rw [f.1 14 1 (by decide)]; exact c, by rw [f.1 13 0 (by decide)]; exact d, by rw [f.1 14 2 (by decide)]; exact e, by rw [f.1 13 0 (by decide)]; exact g, by rw [f.1 14 4 (by decide)]; exact i⟩
def q_helpsE (x y : Int32) : Nat := cond (q_ix x 4 && q_ix y 3) 0 1
end RefHelps2
