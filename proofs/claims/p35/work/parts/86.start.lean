/-! The law's start: what the statement gives of it. Own work. -/
section Start
variable {args : Array Value} {s : State}
theorem e_rng {n : Nat} {P : Nat → Bool} (h : (List.range n).all P = true) {i : Nat} (hi : i < n) : P i = true := List.all_eq_true.mp h i (List.mem_range.mpr hi)
/-- the statement's own words, one by one -/
def e_gv : List Cond := flatC (Jvm.Cond.and given_1 narrow_1)
def e_tm (i : Nat) : Term := .string (e_so i) (e_si i)
def e_vf (i : Nat) : Term := .field (e_tm i) "java/lang/String" "value" "[B"
def e_gchk (l : List Cond) : Bool := (List.range 4).all (fun i => decide (Cond.exactly (e_tm i) "java/lang/String" ∈ l) && (decide (Cond.eq (.field (e_tm i) "java/lang/String" "coder" "B") (.int 0) ∈ l) && (decide (Cond.arrayOf (e_vf i) .byte ∈ l) && (decide (Cond.eq (.length (e_vf i)) (.int (Int32.ofNat (e_sl.getD i 0))) ∈ l) && (List.range (e_sl.getD i 0)).all (fun j => decide (Cond.eq (.elem (e_vf i) (.int (Int32.ofNat j))) (.int ((e_sb.getD i []).getD j 0)) ∈ l))))))
theorem e_gchk_ok : e_gchk ((e_gv.drop 425).take 38) = true := by decide +kernel
theorem e_cut {a b : Nat} {w : Cond} (h : w ∈ (e_gv.drop a).take b) : w ∈ e_gv := List.mem_of_mem_drop (List.mem_of_mem_take h)
theorem e_g5 {i : Nat} (hi : i < 4) : (Cond.exactly (e_tm i) "java/lang/String" ∈ e_gv) ∧ (Cond.eq (.field (e_tm i) "java/lang/String" "coder" "B") (.int 0) ∈ e_gv) ∧ (Cond.arrayOf (e_vf i) .byte ∈ e_gv) ∧ (Cond.eq (.length (e_vf i)) (.int (Int32.ofNat (e_sl.getD i 0))) ∈ e_gv) ∧ ∀ j, j < e_sl.getD i 0 → Cond.eq (.elem (e_vf i) (.int (Int32.ofNat j))) (.int ((e_sb.getD i []).getD j 0)) ∈ e_gv := by
  have h := e_rng e_gchk_ok hi
  simp only [Bool.and_eq_true, decide_eq_true_eq] at h
  obtain ⟨h1, h2, h3, h4, h5⟩ := h
  exact ⟨e_cut h1, e_cut h2, e_cut h3, e_cut h4, fun j hj => e_cut (of_decide_eq_true (e_rng h5 hj))⟩
theorem e_sne : ∀ i, i < 4 → ∀ j, j < 4 → Int32.ofNat (e_sl.getD i 0) = Int32.ofNat (e_sl.getD j 0) → (e_sb.getD i []).getD 0 0 = (e_sb.getD j []).getD 0 0 → i = j := by decide +kernel
theorem e_spos : ∀ i, i < 4 → 0 < e_sl.getD i 0 ∧ e_sl.getD i 0 < 2 ^ 31 := by decide +kernel
theorem e_str {A : Nat → Prop} (hs : ∀ c ∈ e_gv, c.before args s = true) (hA : ∀ a : Nat, a < s.heap.size → ¬ A a) : ∃ adK adV : Nat → Nat, vk_S 4 e_sl e_sb adK adV A s s.heap ∧ ∀ i : Nat, i < 4 → (e_tm i).eval args s none [] s = some (.ref (adK i)) := by
  have h0 : ∀ i : Nat, ∃ q : Nat × Nat, i < 4 → (e_tm i).eval args s none [] s = some (.ref q.1) ∧ va_O "java/lang/String" q.1 A s s.heap ∧ va_OF "java/lang/String" "coder" "B" (.int 0) q.1 A s s.heap ∧ va_OF "java/lang/String" "value" "[B" (.ref q.2) q.1 A s s.heap ∧ va_T .byte q.2 (e_sl.getD i 0) (fun j => .int ((e_sb.getD i []).getD j 0)) A s s.heap := by
    intro i
    by_cases hi : i < 4
    · obtain ⟨g1, g2, g3, g4, g5⟩ := e_g5 hi
      obtain ⟨a, c, cA, kA, q1, q2, q3, q4, q5, q6, -⟩ := Cond.exactly_spec (args := args) (first := s) (o := none) (s := s) (idx := []) (t := e_tm i) (cls := "java/lang/String") (hs _ g1)
      obtain ⟨t, ht, hT⟩ := va_Tof (f := fun j => .int ((e_sb.getD i []).getD j 0)) (A := A) (e_spos i hi).2 (hs _ g3) (va_eqt (hs _ g4)) (fun j hj => va_eqt (hs _ (g5 j hj))) hA
      exact ⟨(a, t), fun _ => ⟨q1, ⟨cA, q3, q5, by rw [q6]; exact q2, hA a (Array.getElem?_eq_some_iff.mp q3).1⟩, vk_OFof q1 (va_eqt (hs _ g2)) hA, vk_OFof q1 ht hA, hT⟩⟩
    · exact ⟨(0, 0), fun h => absurd h hi⟩
  obtain ⟨ad, had⟩ := Classical.axiomOfChoice h0
  refine ⟨fun i => (ad i).1, fun i => (ad i).2, ⟨fun i hi => (had i hi).2, fun i j hi hj e => ?_⟩, fun i hi => (had i hi).1⟩
  obtain ⟨-, -, -, o1, t1⟩ := had i hi
  obtain ⟨-, -, -, o2, t2⟩ := had j hj
  have e : (ad i).1 = (ad j).1 := e
  rw [e] at o1
  have ev : (ad i).2 = (ad j).2 := by
    obtain ⟨cf, k, f, fd, cell, a1, -, a3, -, a5, -⟩ := o1
    obtain ⟨cf2, k2, f2, fd2, cell2, b1, -, b3, -, b5, -⟩ := o2
    cases a1.symm.trans b1
    cases a3.symm.trans b3
    exact Value.ref.inj (Option.some.inj (a5.symm.trans b5))
  rw [ev] at t1
  obtain ⟨cell, a1, -, -, -, a5, a6, -⟩ := t1
  obtain ⟨cell2, b1, -, -, -, b5, b6, -⟩ := t2
  cases a1.symm.trans b1
  exact e_sne i hi j hj (a5.symm.trans b5) (Value.int.inj (Option.some.inj ((a6 0 (e_spos i hi).1).symm.trans (b6 0 (e_spos j hj).1))))
def e_d1 : Term := .static "java/lang/Integer" "DigitOnes" "[B"
def e_d2 : Term := .static RX0 "HIGHEST_SETTINGS" "[I"
def e_dchk (l : List Cond) : Bool := decide (Cond.arrayOf e_d1 .byte ∈ l) && (decide (Cond.eq (.length e_d1) (.int (Int32.ofNat 100)) ∈ l) && (List.range 100).all (fun j => decide (Cond.eq (.elem e_d1 (.int (Int32.ofNat j))) (.int (e_dg j)) ∈ l)))
theorem e_dchk_ok : e_dchk ((e_gv.drop 0).take 120) = true := by decide +kernel
def e_hchk (l : List Cond) : Bool := decide (Cond.arrayOf e_d2 .int ∈ l) && (decide (Cond.eq (.length e_d2) (.int (Int32.ofNat 3)) ∈ l) && (List.range 3).all (fun j => decide (Cond.eq (.elem e_d2 (.int (Int32.ofNat j))) (.int (e_hs j)) ∈ l)))
theorem e_hchk_ok : e_hchk ((e_gv.drop 5).take 8) = true := by decide +kernel
theorem e_dig0 {A : Nat → Prop} (hs : ∀ c ∈ e_gv, c.before args s = true) (hA : ∀ a : Nat, a < s.heap.size → ¬ A a) : ∃ t : Nat, e_d1.eval args s none [] s = some (.ref t) ∧ va_T .byte t 100 (fun j => .int (e_dg j)) A s s.heap := by
  have h := e_dchk_ok
  unfold e_dchk at h
  simp only [Bool.and_eq_true, decide_eq_true_eq] at h
  obtain ⟨h1, h2, h3⟩ := h
  exact va_Tof (f := fun j => .int (e_dg j)) (by decide) (hs _ (e_cut h1)) (va_eqt (hs _ (e_cut h2))) (fun j hj => va_eqt (hs _ (e_cut (of_decide_eq_true (e_rng h3 hj))))) hA
theorem e_hi0 {A : Nat → Prop} (hs : ∀ c ∈ e_gv, c.before args s = true) (hA : ∀ a : Nat, a < s.heap.size → ¬ A a) : ∃ t : Nat, e_d2.eval args s none [] s = some (.ref t) ∧ va_T .int t 3 (fun j => .int (e_hs j)) A s s.heap := by
  have h := e_hchk_ok
  unfold e_hchk at h
  simp only [Bool.and_eq_true, decide_eq_true_eq] at h
  obtain ⟨h1, h2, h3⟩ := h
  exact va_Tof (f := fun j => .int (e_hs j)) (by decide) (hs _ (e_cut h1)) (va_eqt (hs _ (e_cut h2))) (fun j hj => va_eqt (hs _ (e_cut (of_decide_eq_true (e_rng h3 hj))))) hA
theorem e_xl_g : e_xl.all (fun x => decide (Cond.exactly (.string RX4 x.1) "java/lang/String" ∈ e_gv)) = true := by decide +kernel
theorem e_xl_t : e_xl.all (fun x => decide (Cond.stringRef RX4 x.1 x.2 ∈ lw_tbl)) = true := by decide +kernel
theorem e_sl_t : (List.range 4).all (fun i => decide (Cond.stringRef (e_so i) (e_si i) (e_sx i) ∈ lw_tbl)) = true := by decide +kernel
theorem e_fw_t : e_fw.all (fun w => decide (w ∈ lw_tbl)) = true := by decide +kernel
theorem e_nc_g : (e_prs.all (fun q => decide (Cond.not (Cond.castable q.1 q.2) ∈ (e_gv.drop 223).take 56))) = true := by decide +kernel
theorem e_in_t : (List.range 7).all (fun c => decide (Cond.instantiable (e_R c) (e_N c) ∈ lw_tbl)) = true := by decide +kernel
theorem e_all_of (hts : ∀ w ∈ lw_tbl, w.before args s = true) : ∀ w ∈ e_all, w.before args s = true := by
  intro w hw
  rcases List.mem_append.mp hw with z | z
  · exact hts w (List.mem_filter.mp z).1
  · obtain ⟨c, kC, hfc, -⟩ := Cond.instantiable_spec (hts (Cond.instantiable RJ4 4) (List.mem_of_getElem? (i := 187) (by decide +kernel)))
    simp only [e_xt, List.mem_cons, List.not_mem_nil, or_false] at z
    rcases z with rfl | rfl | rfl | rfl
    · exact e_selP hfc (hts _ (List.mem_of_getElem? (i := 1113) (by decide +kernel))) (hts _ (List.mem_of_getElem? (i := 466) (by decide +kernel))) (hts _ (List.mem_of_getElem? (i := 467) (by decide +kernel)))
    · exact e_selP hfc (hts _ (List.mem_of_getElem? (i := 1114) (by decide +kernel))) (hts _ (List.mem_of_getElem? (i := 470) (by decide +kernel))) (hts _ (List.mem_of_getElem? (i := 471) (by decide +kernel)))
    · exact e_selP hfc (hts _ (List.mem_of_getElem? (i := 1115) (by decide +kernel))) (hts _ (List.mem_of_getElem? (i := 539) (by decide +kernel))) (hts _ (List.mem_of_getElem? (i := 540) (by decide +kernel)))
    · exact e_selP hfc (hts _ (List.mem_of_getElem? (i := 1116) (by decide +kernel))) (hts _ (List.mem_of_getElem? (i := 543) (by decide +kernel))) (hts _ (List.mem_of_getElem? (i := 544) (by decide +kernel)))
theorem e_kn (hts : ∀ w ∈ lw_tbl, w.before args s = true) : ∃ (dC : Nat → ClassId) (dI : Nat → Nat → Nat), ∀ c, c < 7 → u_Kn s (e_R c) (e_T c) (e_N c) (dC c) (dI c) := by
  have h : ∀ c : Nat, ∃ q : ClassId × (Nat → Nat), c < 7 → u_Kn s (e_R c) (e_T c) (e_N c) q.1 q.2 := by
    intro c
    by_cases hc : c < 7
    · obtain ⟨cC, iS, h⟩ := u_known (e_all_of hts) (e_lay hc) (hts _ (of_decide_eq_true (e_rng e_in_t hc)))
      exact ⟨(cC, iS), fun _ => h⟩
    · exact ⟨(0, fun _ => 0), fun z => absurd z hc⟩
  obtain ⟨f, hf⟩ := Classical.axiomOfChoice h
  exact ⟨fun c => (f c).1, fun c => (f c).2, hf⟩
theorem e_ar (hts : ∀ w ∈ lw_tbl, w.before args s = true) : ∃ dA : Nat → ClassId, ∀ t, t < 6 → ArrOfT s (dA t) (e_a t) ∧ va_RA s (dA t) (e_a t) := by
  have h : ∀ t : Nat, ∃ q : ClassId, t < 6 → ArrOfT s q (e_a t) ∧ va_RA s q (e_a t) := by
    intro t
    have ob : ∀ C : String, (Cond.arrayOver (.object C)).before args s = true → ∃ q : ClassId, ArrOfT s q (.object C) ∧ va_RA s q (.object C) := fun C hC => by
      obtain ⟨comp, c, k, h1, h2, h3, h4, h5⟩ := Cond.arrayOver_spec hC
      exact ⟨c, fun n z => ⟨fun k h => (by cases h), k, h3, comp, h4⟩, k, comp, h3, h4, h1, h5⟩
    by_cases ht : t < 6
    · rcases (show t = 0 ∨ t = 1 ∨ t = 2 ∨ t = 3 ∨ t = 4 ∨ t = 5 by omega) with rfl | rfl | rfl | rfl | rfl | rfl
      · obtain ⟨c, k, comp, h1, h2, h3⟩ := Cond.arrayClass_spec (hts (Cond.arrayClass .int) (List.mem_of_getElem? (i := 94) (by decide +kernel)))
        exact ⟨c, fun _ => ⟨fun n z => ⟨fun k h => (by cases h), k, h2, comp, h3⟩, h1⟩⟩
      · obtain ⟨c, k, comp, h1, h2, h3⟩ := Cond.arrayClass_spec (hts (Cond.arrayClass .byte) (List.mem_of_getElem? (i := 218) (by decide +kernel)))
        exact ⟨c, fun _ => ⟨fun n z => ⟨fun k h => (by cases h), k, h2, comp, h3⟩, h1⟩⟩
      · obtain ⟨c, k, comp, h1, h2, h3⟩ := Cond.arrayClass_spec (hts (Cond.arrayClass .int) (List.mem_of_getElem? (i := 94) (by decide +kernel)))
        exact ⟨c, fun _ => ⟨fun n z => ⟨fun k h => (by cases h), k, h2, comp, h3⟩, h1⟩⟩
      · exact (ob RX2 (hts _ (List.mem_of_getElem? (i := 54) (by decide +kernel)))).imp fun q z _ => z
      · exact (ob RX1 (hts _ (List.mem_of_getElem? (i := 56) (by decide +kernel)))).imp fun q z _ => z
      · exact (ob RX0 (hts _ (List.mem_of_getElem? (i := 179) (by decide +kernel)))).imp fun q z _ => z
    · exact ⟨0, fun z => absurd z ht⟩
  exact Classical.axiomOfChoice h
/-- where foreign things lie -/
def e_gF (adK adV : Nat → Nat) (h b d f : Nat) : Nat → Nat → Nat
  | 20, i => adK i
  | 21, i => adV i
  | 22, _ => h
  | 23, _ => b
  | 24, 0 => d
  | _, _ => f
theorem e_begin (l : Launch) {L b : Nat} {xs : Nat → Int32} (hts : ∀ w ∈ lw_tbl, w.before args s = true) (hs : ∀ c ∈ e_gv, c.before args s = true) (hX : va_X b L xs s s.heap) (hb : b < s.heap.size) : ∃ G : eG, gl G = l ∧ gr G = e_r0 ∧ gn G = L ∧ gx G = xs ∧ gb G = s.heap.size ∧ gF G 23 0 = b ∧ e_St G s s.heap := by
  have hA : ∀ a : Nat, a < s.heap.size → ¬ (s.heap.size ≤ a) := fun a h => Nat.not_le.mpr h
  obtain ⟨dC, dI, hKn⟩ := e_kn hts
  obtain ⟨dA, hAr⟩ := e_ar hts
  obtain ⟨adK, adV, hS, hev⟩ := e_str (A := fun q => s.heap.size ≤ q) hs hA
  obtain ⟨h, hh, hT⟩ := e_hi0 (A := fun q => s.heap.size ≤ q) hs hA
  obtain ⟨d, hd, hD⟩ := e_dig0 (A := fun q => s.heap.size ≤ q) hs hA
  have hF : va_Zq "jdk/internal/util/Preconditions" "SIOOBE_FORMATTER" "Ljava/util/function/BiFunction;" (fun q => s.heap.size ≤ q) s s.heap := va_Zqof (hts _ (List.mem_of_getElem? (i := 516) (by decide +kernel))) (hts _ (List.mem_of_getElem? (i := 35) (by decide +kernel))) (hs _ (List.mem_of_getElem? (i := 13) (by decide +kernel))) hA
  obtain ⟨f, hf⟩ : ∃ f : Nat, va_Z "jdk/internal/util/Preconditions" "SIOOBE_FORMATTER" "Ljava/util/function/BiFunction;" .null (fun q => s.heap.size ≤ q) s s.heap ∨ va_Z "jdk/internal/util/Preconditions" "SIOOBE_FORMATTER" "Ljava/util/function/BiFunction;" (.ref f) (fun q => s.heap.size ≤ q) s s.heap := by
    rcases hF with z | ⟨t, z⟩
    · exact ⟨0, Or.inl z⟩
    · exact ⟨t, Or.inr z⟩
  have hnc : ∀ q ∈ e_prs, va_Nc q.1 q.2 s := fun q hq => va_Nc.of (hs _ (e_cut (of_decide_eq_true (List.all_eq_true.mp e_nc_g q hq))))
  refine ⟨(l, (dC, dI), dA, e_gF adK adV h b d f, s.heap.size, e_r0, L, xs), rfl, rfl, rfl, rfl, rfl, rfl, ?_⟩
  refine ⟨⟨fun c q hq => ?_, fun k q hq => ?_⟩, va_Zref (hts _ (List.mem_of_getElem? (i := 392) (by decide +kernel))) (hts _ (List.mem_of_getElem? (i := 16) (by decide +kernel))) hh hA, hT, hS,
    fun i hi => vk_R.of (hts _ (of_decide_eq_true (e_rng e_sl_t hi))) (hev i hi), fun x hx => ?_,
    va_Zof (hts _ (List.mem_of_getElem? (i := 196) (by decide +kernel))) (hts _ (List.mem_of_getElem? (i := 22) (by decide +kernel))) (va_eqi (hs _ (List.mem_of_getElem? (i := 4) (by decide +kernel)))) hA,
    vx_Zqof (hts _ (List.mem_of_getElem? (i := 284) (by decide +kernel))) (hts _ (List.mem_of_getElem? (i := 24) (by decide +kernel))) (hs _ (List.mem_of_getElem? (i := 5) (by decide +kernel))) hA,
    vx_Zqof (hts _ (List.mem_of_getElem? (i := 286) (by decide +kernel))) (hts _ (List.mem_of_getElem? (i := 24) (by decide +kernel))) (hs _ (List.mem_of_getElem? (i := 6) (by decide +kernel))) hA,
    hX, hb, Nat.not_le.mpr hb, fun w hw => va_Nw.of (e_fw_tab w hw) (hts w (of_decide_eq_true (List.all_eq_true.mp e_fw_t w hw))),
    hnc _ List.mem_cons_self, hnc _ (List.mem_cons_of_mem _ List.mem_cons_self), hnc _ (List.mem_cons_of_mem _ (List.mem_cons_of_mem _ List.mem_cons_self)),
    va_Zref (hts _ (List.mem_of_getElem? (i := 586) (by decide +kernel))) (hts _ (List.mem_of_getElem? (i := 29) (by decide +kernel))) hd hA, hD, hf,
    va_AO.of (C := RX2) (A := #[]) ?_, va_AO.of (C := RX1) (A := #[]) ?_, va_AO.of (C := RX0) (A := #[]) ?_⟩
  · by_cases hc : c < 7
    · rw [e_C_at hc] at hq
      cases hq
      exact hKn c hc
    · rw [List.getElem?_eq_none (by simpa using hc)] at hq
      cases hq
  · by_cases hk : k < 6
    · rw [e_TY_at hk] at hq
      cases hq
      exact hAr k hk
    · rw [List.getElem?_eq_none (by simpa using hk)] at hq
      cases hq
  · obtain ⟨a, c, cA, kA, q1, -⟩ := Cond.exactly_spec (args := args) (first := s) (o := none) (s := s) (idx := []) (t := .string RX4 x.1) (cls := "java/lang/String") (hs _ (of_decide_eq_true (List.all_eq_true.mp e_xl_g x hx)))
    exact ⟨a, vk_R.of (hts _ (of_decide_eq_true (List.all_eq_true.mp e_xl_t x hx))) q1⟩
  · exact hts (Cond.arrayOver (.object RX2)) (List.mem_of_getElem? (i := 54) (by decide +kernel))
  · exact hts (Cond.arrayOver (.object RX1)) (List.mem_of_getElem? (i := 56) (by decide +kernel))
  · exact hts (Cond.arrayOver (.object RX0)) (List.mem_of_getElem? (i := 179) (by decide +kernel))
end Start
