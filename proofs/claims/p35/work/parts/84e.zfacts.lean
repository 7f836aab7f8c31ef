/-! What the law's checks rest on, of the row alone. Own work. -/
section ZFacts
variable {v : qV} {B n np ni nl : Nat}
-- a line-up told
theorem z_lt32 : ∀ c, c < 4 → ∀ l, l < q_nl c → (32 : Int32) < q_lt c l := by decide +kernel
theorem z_ch32 {m : Nat} (hnp : np ≤ 10) : ∀ d k l, k + d = 4 → l < q_tl m d k → (32 : Int32) < q_ch v m np d k l
  | 0, _, l, _, h => absurd h (Nat.not_lt_zero l)
  | d + 1, k, l, hk, h => by
    have hkf : q_kf m k < 4 := Nat.mod_lt _ (by decide)
    rw [q_ch]
    rw [q_tl] at h
    by_cases c1 : l < q_nl (q_kf m k)
    · rw [if_pos c1]; exact z_lt32 _ hkf _ c1
    rw [if_neg c1]
    by_cases c2 : l = q_nl (q_kf m k)
    · rw [if_pos c2]; decide
    rw [if_neg c2]
    by_cases c3 : l = q_nl (q_kf m k) + 1
    · rw [if_pos c3]
      rcases q_pl_could v m np k with y | ⟨b, y1, y2, y3⟩
      · rw [if_pos y]; decide
      · rw [if_neg (by rw [y2]; exact q_nIne (by omega)), y2, show (48 : Int32) + nI b = nI (48 + b) from nI_add 48 b]
        exact nI_lt (a := 32) (by omega) (by omega)
    rw [if_neg c3]
    by_cases c5 : k < 3
    · rw [if_pos c5] at h
      by_cases c4 : l = q_nl (q_kf m k) + 2
      · rw [if_pos ⟨c4, c5⟩]; decide
      · rw [if_neg (fun z => c4 z.1)]
        exact z_ch32 hnp d (k + 1) _ (by omega) (by omega)
    · exfalso
      rw [if_neg c5] at h
      obtain rfl : d = 0 := by omega
      have h : l < q_nl (q_kf m k) + 2 + 0 + 0 := h
      omega
theorem z_tl31 : ∀ m, m < 4 → 31 ≤ q_tl m 4 0 := by decide
/-- where a part begins in the text -/
def z_at (m : Nat) : Nat → Nat
  | 0 => 0
  | k + 1 => z_at m k + q_nl (q_kf m k) + 3
theorem z_at_le : ∀ m, m < 4 → ∀ k, k < 5 → z_at m k ≤ 36 := by decide
theorem z_at_4 : ∀ m, m < 4 → z_at m 4 = q_tl m 4 0 + 1 := by decide
theorem z_at_ch {m : Nat} : ∀ k d l, k + d = 4 → 0 < d → q_ch v m np 4 0 (z_at m k + l) = q_ch v m np d k l
  | 0, d, l, hk, _ => by
    obtain rfl : d = 4 := by omega
    rw [show z_at m 0 + l = l from Nat.zero_add l]
  | k + 1, d, l, hk, hd => by
    rw [show z_at m (k + 1) + l = z_at m k + (q_nl (q_kf m k) + 3 + l) by show z_at m k + q_nl (q_kf m k) + 3 + l = _; omega, z_at_ch k (d + 1) _ (by omega) (by omega), q_ch, if_neg (by omega), if_neg (by omega), if_neg (by omega), if_neg (by omega)]
    rw [show q_nl (q_kf m k) + 3 + l - (q_nl (q_kf m k) + 3) = l by omega]
theorem z_at_44 {m k : Nat} (hk : k < 3) : q_ch v m np 4 0 (z_at m (k + 1) - 1) = 44 := by
  rw [show z_at m (k + 1) - 1 = z_at m k + (q_nl (q_kf m k) + 2) by show z_at m k + q_nl (q_kf m k) + 3 - 1 = _; omega, z_at_ch k (4 - k) _ (by omega) (by omega), show 4 - k = (3 - k) + 1 by omega, q_ch, if_neg (by omega), if_neg (by omega), if_neg (by omega), if_pos ⟨rfl, hk⟩]
theorem z_at_a {m k : Nat} (hk : k < 4) : q_ch v m np 4 0 (z_at m k) = q_lt (q_kf m k) 0 := by
  have h0 : ∀ c, c < 4 → 0 < q_nl c := by decide
  have := h0 (q_kf m k) (Nat.mod_lt _ (by decide))
  have z := z_at_ch (v := v) (np := np) (m := m) k (4 - k) 0 (by omega) (by omega)
  rw [show z_at m k + 0 = z_at m k from rfl] at z
  rw [z, show 4 - k = (3 - k) + 1 by omega, q_ch, if_pos this]
theorem z_at_b {m k : Nat} (hk : k < 4) : q_ch v m np 4 0 (z_at m k + q_nl (q_kf m k)) = 58 := by
  rw [z_at_ch k (4 - k) _ (by omega) (by omega), show 4 - k = (3 - k) + 1 by omega]
  exact q_ch_b
theorem z_at_c {m k : Nat} (hk : k < 4) : q_ch v m np 4 0 (z_at m k + q_nl (q_kf m k) + 1) = if q_pl v m np k = -1 then 45 else 48 + q_pl v m np k := by
  rw [Nat.add_assoc, z_at_ch k (4 - k) _ (by omega) (by omega), show 4 - k = (3 - k) + 1 by omega]
  exact q_ch_c
theorem z_lt0 : ∀ c, c < 4 → q_lt c 0 = if c = 0 then 99 else if c = 1 then 104 else if c = 2 then 98 else 116 := by decide +kernel
-- the most parts
def z_pn (v : qV) (m np k : Nat) : Nat := if q_pl v m np k = -1 then 99 else (q_pl v m np k).toNatClampNeg
theorem z_pn_lt {m k : Nat} (hnp : np ≤ 10) (h : z_pn v m np k < 99) : q_pl v m np k = nI (z_pn v m np k) ∧ z_pn v m np k < np ∧ q_could v (z_pn v m np k) m k = true := by
  rcases q_pl_could v m np k with y | ⟨b, y1, y2, y3⟩
  · unfold z_pn at h
    rw [if_pos y] at h
    exact absurd h (Nat.lt_irrefl _)
  · have e : z_pn v m np k = b := by
      unfold z_pn
      rw [if_neg (by rw [y2]; exact q_nIne (by omega)), y2, nI_clamp (by omega)]
    rw [e]
    exact ⟨y2, y1, y3⟩
theorem z_pn_ne {m j k n : Nat} (hnp : np ≤ 10) (hn : n < np) (hj : j < k) (hk : k < 4) (h1 : z_pn v m np j = n) (h2 : z_pn v m np k = n) : False := by
  have a := z_pn_lt (v := v) (m := m) (k := j) hnp (by omega)
  have b := z_pn_lt (v := v) (m := m) (k := k) hnp (by omega)
  exact q_pl_ne hnp hk hj b.1 (by omega) (by rw [a.1, h1, h2])
def z_t (b : Bool) (p n : Nat) : Nat := if b = true ∧ p < n then 1 else 0
def z_u (b : Bool) (p n : Nat) : Nat := if b = true ∧ p = n then 1 else 0
theorem z_t_s (b : Bool) (p n : Nat) : z_t b p (n + 1) = z_t b p n + z_u b p n := by
  unfold z_t z_u
  cases b with
  | false => rw [if_neg (by simp), if_neg (by simp), if_neg (by simp)]
  | true =>
    by_cases c : p = n
    · rw [if_pos ⟨rfl, by omega⟩, if_neg (fun z => by have := z.2; omega), if_pos ⟨rfl, c⟩]
    · by_cases c2 : p < n
      · rw [if_pos ⟨rfl, by omega⟩, if_pos ⟨rfl, c2⟩, if_neg (fun z => c z.2)]
      · rw [if_neg (fun z => by have := z.2; omega), if_neg (fun z => c2 z.2), if_neg (fun z => c z.2)]
theorem z_u_le (b : Bool) (p n : Nat) : z_u b p n ≤ 1 := by unfold z_u; split <;> omega
theorem z_u_1 {b : Bool} {p n : Nat} (h : z_u b p n ≠ 0) : b = true ∧ p = n := by
  unfold z_u at h
  split at h
  · assumption
  · exact absurd rfl h
def z_c4 (v : qV) (m np t n : Nat) : Nat := z_t (t.testBit 0) (z_pn v m np 0) n + z_t (t.testBit 1) (z_pn v m np 1) n + z_t (t.testBit 2) (z_pn v m np 2) n + z_t (t.testBit 3) (z_pn v m np 3) n
theorem z_c4_ct {m t : Nat} (hnp : np ≤ 10) (ht : t < 16) : ∀ n, n ≤ np → z_c4 v m np t n ≤ q_ct v m n t
  | 0, _ => by
    unfold z_c4 z_t
    rw [if_neg (fun z => Nat.not_lt_zero _ z.2), if_neg (fun z => Nat.not_lt_zero _ z.2), if_neg (fun z => Nat.not_lt_zero _ z.2), if_neg (fun z => Nat.not_lt_zero _ z.2)]
    exact Nat.zero_le _
  | n + 1, hn => by
    have ih := z_c4_ct (m := m) hnp ht n (by omega)
    unfold z_c4 at ih ⊢
    rw [z_t_s, z_t_s, z_t_s, z_t_s]
    have hu : ∀ k, k < 4 → z_u (t.testBit k) (z_pn v m np k) n ≠ 0 → ¬ q_ab v n m &&& t = 0 := fun k hk h => by
      obtain ⟨h1, h2⟩ := z_u_1 h
      have c := (z_pn_lt (v := v) (m := m) (k := k) hnp (by omega)).2.2
      rw [h2, ← q_ab_tb v n m hk] at c
      exact q_m_hit _ (q_ab_lt v n m) k hk c t ht h1
    have hd : ∀ j k, j < k → k < 4 → z_u (t.testBit j) (z_pn v m np j) n ≠ 0 → z_u (t.testBit k) (z_pn v m np k) n ≠ 0 → False := fun j k hj hk h1 h2 => z_pn_ne hnp (by omega) hj hk (z_u_1 h1).2 (z_u_1 h2).2
    have l0 := z_u_le (t.testBit 0) (z_pn v m np 0) n
    have l1 := z_u_le (t.testBit 1) (z_pn v m np 1) n
    have l2 := z_u_le (t.testBit 2) (z_pn v m np 2) n
    have l3 := z_u_le (t.testBit 3) (z_pn v m np 3) n
    have d01 := hd 0 1 (by decide) (by decide)
    have d02 := hd 0 2 (by decide) (by decide)
    have d03 := hd 0 3 (by decide) (by decide)
    have d12 := hd 1 2 (by decide) (by decide)
    have d13 := hd 1 3 (by decide) (by decide)
    have d23 := hd 2 3 (by decide) (by decide)
    have u0 := hu 0 (by decide)
    have u1 := hu 1 (by decide)
    have u2 := hu 2 (by decide)
    have u3 := hu 3 (by decide)
    generalize z_u (t.testBit 0) (z_pn v m np 0) n = a0 at *
    generalize z_u (t.testBit 1) (z_pn v m np 1) n = a1 at *
    generalize z_u (t.testBit 2) (z_pn v m np 2) n = a2 at *
    generalize z_u (t.testBit 3) (z_pn v m np 3) n = a3 at *
    show _ ≤ q_ct v m n t + (if q_ab v n m &&& t = 0 then 0 else 1)
    by_cases c : q_ab v n m &&& t = 0
    · rw [if_pos c]
      have e0 : a0 = 0 := Decidable.byContradiction fun z => u0 z c
      have e1 : a1 = 0 := Decidable.byContradiction fun z => u1 z c
      have e2 : a2 = 0 := Decidable.byContradiction fun z => u2 z c
      have e3 : a3 = 0 := Decidable.byContradiction fun z => u3 z c
      omega
    · rw [if_neg c]
      have key : a0 + a1 + a2 + a3 ≤ 1 := by
        rcases Nat.eq_zero_or_pos a0 with z0 | z0
        · rcases Nat.eq_zero_or_pos a1 with z1 | z1
          · rcases Nat.eq_zero_or_pos a2 with z2 | z2
            · omega
            · have e3 : a3 = 0 := Decidable.byContradiction fun z => d23 (by omega) z
              omega
          · have e2 : a2 = 0 := Decidable.byContradiction fun z => d12 (by omega) z
            have e3 : a3 = 0 := Decidable.byContradiction fun z => d13 (by omega) z
            omega
        · have e1 : a1 = 0 := Decidable.byContradiction fun z => d01 (by omega) z
          have e2 : a2 = 0 := Decidable.byContradiction fun z => d02 (by omega) z
          have e3 : a3 = 0 := Decidable.byContradiction fun z => d03 (by omega) z
          omega
      omega
theorem z_on4 : ∀ t, t < 16 → q_on t t = cond (t.testBit 0) 1 0 + cond (t.testBit 1) 1 0 + cond (t.testBit 2) 1 0 + cond (t.testBit 3) 1 0 := by decide +kernel
theorem z_t_on {m : Nat} (hnp : np ≤ 10) (b : Bool) (k : Nat) : cond b 1 0 ≤ z_t b (z_pn v m np k) np + cond (decide (q_pl v m np k = -1)) 1 0 := by
  cases b with
  | false => exact Nat.zero_le _
  | true =>
    by_cases c : q_pl v m np k = -1
    · rw [decide_eq_true c]; exact Nat.le_add_left _ _
    · have h : z_pn v m np k < 99 := by
        rcases q_pl_could v m np k with y | ⟨b, y1, y2, y3⟩
        · exact absurd y c
        · unfold z_pn
          rw [if_neg c, y2, nI_clamp (by omega)]
          omega
      have := (z_pn_lt hnp h).2.1
      unfold z_t
      rw [if_pos ⟨rfl, this⟩]
      exact Nat.le_add_right _ _
/-- the most parts that could be filled: as many as in a line-up or more -/
theorem z_most {m : Nat} (hnp : np ≤ 10) : ∃ u, u ≤ 4 ∧ q_mos v m np 16 = nI u ∧ 4 ≤ u + q_sh v m np 4 := by
  obtain ⟨u, hu, e, -, h2⟩ := q_mos_all (v := v) (m := m) hnp 16 (Nat.le_refl _)
  refine ⟨u, hu, e, ?_⟩
  rcases h2 with rfl | ⟨t, ht, rfl⟩
  · omega
  · have h1 := z_c4_ct (v := v) (m := m) hnp ht np (Nat.le_refl _)
    have h0 := z_t_on (v := v) (m := m) hnp (t.testBit 0) 0
    have h3 := z_t_on (v := v) (m := m) hnp (t.testBit 1) 1
    have h4 := z_t_on (v := v) (m := m) hnp (t.testBit 2) 2
    have h5 := z_t_on (v := v) (m := m) hnp (t.testBit 3) 3
    have h6 := z_on4 t ht
    have hs : q_sh v m np 4 = 0 + cond (decide (q_pl v m np 0 = -1)) 1 0 + cond (decide (q_pl v m np 1 = -1)) 1 0 + cond (decide (q_pl v m np 2 = -1)) 1 0 + cond (decide (q_pl v m np 3 = -1)) 1 0 := rfl
    have h7 := q_m_le4 t ht
    unfold z_c4 at h1
    omega
-- helps
theorem z_hl {m t : Nat} : ∀ d p, p + d = np → q_hl v m np t d p = -1 ∨ ∃ j, j < np ∧ q_hl v m np t d p = nI j ∧ q_whyLesson v j t = 0 ∧ q_sh (q_teach v j t) m np 4 < q_sh v m np 4
  | 0, _, _ => Or.inl rfl
  | d + 1, p, h => by
    rw [q_hl]
    cases c : q_hp v m np t p with
    | false => exact z_hl d (p + 1) (by omega)
    | true =>
      unfold q_hp at c
      rw [Bool.and_eq_true] at c
      exact Or.inr ⟨p, by omega, rfl, of_decide_eq_true c.1, of_decide_eq_true c.2⟩
-- the best march
def z_mx (v : qV) (np : Nat) : Nat → Int32
  | 0 => 0
  | k + 1 => if z_mx v np k < q_pm v np k then q_pm v np k else z_mx v np k
theorem z_pm_nn (hc : z_c v) (m : Nat) : 0 ≤ q_pm v np m := by
  obtain ⟨a, c, -, -, c1, c2⟩ := hc
  have hs := q_sh_le v m np 4
  have key : ∀ s, s ≤ 4 → ∃ z, z ≤ 792 ∧ q_pence v s = nI z := fun s hs => by
    unfold q_pence
    rw [c1, show (4 : Int32) - nI s = nI (4 - s) from q_sub (a := 4) hs, nI_mul]
    have hm : c * (4 - s) ≤ 99 * 4 := Nat.mul_le_mul c2 (by omega)
    by_cases z : s = 0
    · rw [decide_eq_true z]
      exact ⟨c * (4 - s) * 2, by omega, nI_mul _ 2⟩
    · rw [decide_eq_false z]
      exact ⟨c * (4 - s) * 1, by omega, nI_mul _ 1⟩
  obtain ⟨z, hz, e⟩ := key _ hs
  unfold q_pm
  rw [e]
  exact nI_pos' (by omega)
theorem z_mx_bs (hc : z_c v) : ∀ k, z_mx v np (k + 1) = q_pm v np (q_bs v np (k + 1))
  | 0 => by
    show (if (0 : Int32) < q_pm v np 0 then q_pm v np 0 else 0) = q_pm v np (if q_pm v np 0 < q_pm v np 0 then 0 else 0)
    have h := z_pm_nn (np := np) hc 0
    rw [if_neg (show ¬ q_pm v np 0 < q_pm v np 0 from Int32.lt_irrefl)]
    by_cases c : (0 : Int32) < q_pm v np 0
    · rw [if_pos c]
    · rw [if_neg c]
      exact Int32.le_antisymm h (Int32.not_lt.mp c)
  | k + 1 => by
    have ih := z_mx_bs hc k
    show (if z_mx v np (k + 1) < q_pm v np (k + 1) then q_pm v np (k + 1) else z_mx v np (k + 1)) = q_pm v np (if q_pm v np (q_bs v np (k + 1)) < q_pm v np (k + 1) then k + 1 else q_bs v np (k + 1))
    rw [ih]
    by_cases c : q_pm v np (q_bs v np (k + 1)) < q_pm v np (k + 1)
    · rw [if_pos c, if_pos c]
    · rw [if_neg c, if_neg c]
-- the share
theorem z_cmp {c : Nat} {q : Int} (h : fp_ok c q) : FP.dcmp (fp_n c q) (fp_n c q) = some .eq := by
  show FP.Core.order (FP.Core.decode FP.Core.b64 (fp_n c q).toNat) (FP.Core.decode FP.Core.b64 (fp_n c q).toNat) = _
  rw [fp_dec h]
  show some (compare (FP.Core.signed false (FP.Core.inUnits c q (min q q))) (FP.Core.signed false (FP.Core.inUnits c q (min q q)))) = _
  exact congrArg some (Int.compare_eq_eq.mpr rfl)
theorem z_shr {mm ss : Nat} (hm : 4 * mm < 2 ^ 20) : FP.dcmp (q_shr mm ss) (q_shr mm ss) = some .eq := by
  unfold q_shr
  by_cases h : mm = 0
  · rw [if_pos h]; decide +kernel
  · rw [if_neg h]
    rcases (fp_share (a := 4 * mm - ss) (b := 4 * mm) (by omega) (by omega) hm).2 with ⟨-, e⟩ | ⟨m, k, h1, h2, h3, h4⟩
    · rw [e]; decide +kernel
    · rw [h4]; exact z_cmp h1
end ZFacts
