/-! THE ENGINE, 3: steps that read and write the heap. Own work. -/
theorem e_lay {c : Nat} (h : c < 7) : ∀ w ∈ u_ws (e_R c) (e_T c) (e_N c), w ∈ e_all := by
  have key : ∀ (C : String) (T : u_T) (N : Nat), ((u_ws C T N).all (fun w => goodWord w) = true) → (∀ w ∈ u_ws C T N, w ∈ lw_tbl) → ∀ w ∈ u_ws C T N, w ∈ e_all := fun C T N h1 h2 w hw => e_in_all (h2 w hw) (List.all_eq_true.mp h1 w hw)
  rcases (show c = 0 ∨ c = 1 ∨ c = 2 ∨ c = 3 ∨ c = 4 ∨ c = 5 ∨ c = 6 by omega) with rfl | rfl | rfl | rfl | rfl | rfl | rfl
  · exact key RX0 TX0 17 (by decide +kernel) (by decide +kernel)
  · exact key RX1 TX1 5 (by decide +kernel) (by decide +kernel)
  · exact key RX2 TX2 7 (by decide +kernel) (by decide +kernel)
  · exact key RX3 TX3 1 (by decide +kernel) (by decide +kernel)
  · exact key RX4 TX4 8 (by decide +kernel) (by decide +kernel)
  · exact key RJ4 TJ4 4 (by decide +kernel) (by decide +kernel)
  · exact key RJ4 TJ4 4 (by decide +kernel) (by decide +kernel)
theorem e_kd_big {k : Nat} (h : 15 ≤ k) : e_kd k = 102 := by
  obtain ⟨n, rfl⟩ : ∃ n, k = n + 15 := ⟨k - 15, by omega⟩
  rfl
/-- a live thing of a kind that is held is among the things -/
theorem e_in {S : eM} {k i : Nat} (h : e_live S (aR k i)) (hk : k < 20) : (k, i) ∈ mP S := by
  rcases h (k, i) rfl with z | z
  · exact z
  · exact absurd z (by show ¬ 20 ≤ k; omega)
theorem e_kd_lt {k c : Nat} (h : Nat.beq (e_kd k) c = true) (hc : c ≠ 102) : k < 20 := by
  have h := Nat.eq_of_beq_eq_true h
  rcases Nat.lt_or_ge k 15 with z | z
  · omega
  · rw [e_kd_big z] at h
    exact absurd h.symm hc
def e_rd (rf : Nat → Nat → Nat → Option (Nat × Nat)) (S : eM) (k i j : Nat) : Option (Nat × Nat) := match rf k i j with
  | some q => some q
  | none => mR S k i j
theorem e_rd_eq {rf : Nat → Nat → Nat → Option (Nat × Nat)} {S : eM} {k i j : Nat} (h : e_ok rf S) (hm : (k, i) ∈ mP S) (hj : j < e_pl (k, i)) : e_rd rf S k i j = mR S k i j := by
  unfold e_rd
  cases hq : rf k i j with
  | none => rfl
  | some q => exact (h.2.2.2 k i j q hm hj hq).symm
theorem e_rd_live {rf : Nat → Nat → Nat → Option (Nat × Nat)} {S : eM} {k i j : Nat} (h : e_ok rf S) (hm : (k, i) ∈ mP S) (hj : j < e_pl (k, i)) : e_live S (aO (e_rd rf S k i j)) := by
  rw [e_rd_eq h hm hj]
  exact e_live.o (fun q hq => h.2.2.1 k i j q hq)
theorem e_cell_o {G : eG} {S : eM} {k i c : Nat} (hk : e_kd k = c) (hc : c < 7) : e_cell G S (k, i) = .inr (c, (List.range (e_N c)).map (e_fv G S k i c)) := by
  subst hk
  unfold e_cell
  rw [if_pos (show e_kd (k, i).1 < 100 from Nat.lt_trans hc (by decide))]
theorem e_cell_a {G : eG} {S : eM} {k i t : Nat} (hk : e_kd k = 100 + t) : e_cell G S (k, i) = e_arr G S t k i := by
  unfold e_cell
  rw [if_neg (show ¬ e_kd (k, i).1 < 100 by show ¬ e_kd k < 100; omega)]
  show e_arr G S (e_kd k - 100) k i = _
  rw [hk, Nat.add_sub_cancel_left]
theorem e_pl_o {k i c : Nat} (hk : e_kd k = c) (hc : c < 7) : e_pl (k, i) = e_N c := by
  subst hk
  unfold e_pl
  rw [if_pos (show e_kd (k, i).1 < 100 from Nat.lt_trans hc (by decide))]
theorem e_pl_a {k i t : Nat} (hk : e_kd k = 100 + t) : e_pl (k, i) = e_ln k i := by
  unfold e_pl
  rw [if_neg (show ¬ e_kd (k, i).1 < 100 by show ¬ e_kd k < 100; omega)]
theorem e_ad_in {G : eG} {S : eM} {k i : Nat} : e_cv G S (aR k i) = .ref (e_ad G S (k, i)) := rfl
theorem e_cond {b : Bool} {P : Prop} (h : cond b P False) : b = true ∧ P := by
  cases b with
  | true => exact ⟨rfl, h⟩
  | false => exact h.elim
/-- a memory with other ints, references or longs: live as before -/
theorem e_hv {S S2 : eM} {lc : List (Option eV)} {st : List eV} (h : mP S2 = mP S) (hv : (∀ w, some w ∈ lc → e_live S w) ∧ ∀ v ∈ st, e_live S v) : (∀ w, some w ∈ lc → e_live S2 w) ∧ ∀ v ∈ st, e_live S2 v :=
  ⟨fun w hw q e => by rw [h]; exact hv.1 w hw q e, fun w hw q e => by rw [h]; exact hv.2 w hw q e⟩
theorem e_le_same {S0 S S2 : eM} (h1 : mP S2 = mP S) (h2 : mA S2 = mA S) (h : e_le S0 S) : e_le S0 S2 := fun q hq => ⟨by rw [h1]; exact (h q hq).1, by rw [h2]; exact (h q hq).2⟩
theorem e_cv_same {G : eG} {S S2 : eM} (h2 : mA S2 = mA S) : e_cv G S2 = e_cv G S := by
  have ha : e_ad G S2 = e_ad G S := funext fun q => by unfold e_ad; rw [h2]
  funext v
  rcases v with x | x | x | o
  · rfl
  · rfl
  · rfl
  · show va_rf (o.map (e_ad G S2)) = va_rf (o.map (e_ad G S))
    rw [ha]
theorem e_lv_same {G : eG} {S S2 : eM} {ls : Array Slot} {nL : Nat} {lc : List (Option eV)} (h2 : mA S2 = mA S) (h : e_lv G S ls nL lc) : e_lv G S2 ls nL lc := ⟨h.1, h.2.1, fun i v hv => by rw [e_cv_same h2]; exact h.2.2 i v hv⟩
section Heap
variable {rf : Nat → Nat → Nat → Option (Nat × Nat)} {own : String} {M : eI} {pc : Nat}
-- fields
def t_getI (c j pc : Nat) : eTr := fun _ _ K lc st S bc bs => e_pQ st fun k i r => cond (Nat.beq (e_kd k) c) (K (pc + 3) lc (.inl (mI S k i j) :: r) S bc bs) False
def t_getL (c j pc : Nat) : eTr := fun _ _ K lc st S bc bs => e_pQ st fun k i r => cond (Nat.beq (e_kd k) c) (K (pc + 3) lc (.inr (.inl (mL S k i j)) :: r) S bc bs) False
def t_getR (rf : Nat → Nat → Nat → Option (Nat × Nat)) (c j pc : Nat) : eTr := fun _ _ K lc st S bc bs => e_pQ st fun k i r => cond (Nat.beq (e_kd k) c) (K (pc + 3) lc (.inr (.inr (.inr (e_rd rf S k i j))) :: r) S bc bs) False
theorem s_getI {c j idx : Nat} (d : decode (iB M) pc = .ok (.getfield idx, 3)) (hc : c < 7) (hj : j < e_N c) (hf : e_fk (e_y c j) = 0) (hw : Cond.fieldLink own idx (e_T c j).1 (e_T c j).2.1 (e_T c j).2.2.1 ∈ e_all) : e_Sd rf own M pc (t_getI c j pc) := by
  intro G mc ms p e R s m args below meth c0 Q S0 Qc Qx hG C hR hT K hK lc st S bc bs h H locs ls cells slots hW hS hl hv hle hbc hbs
  obtain ⟨k, i, r, rfl, h60⟩ := e_pQ_of h
  obtain ⟨hk, h61⟩ := e_cond h60
  obtain ⟨pz, hp, hpz⟩ := e_at (G := G) (e_in (e_ph hv) (e_kd_lt hk (by omega)))
  rw [e_cell_o (Nat.eq_of_beq_eq_true hk) hc] at hpz
  refine va_get C.1 C.2.1 C.2.2.2.2.1 (e_lay hc) C.2.2.2.1 C.2.2.2.2.2.1.1 hW.1 pz hpz (e_C_at hc) j hj (C.2.2.2.2.1 _ hw) (fun _ z => z) (e_fs_get hj) d ?_
  unfold e_fv
  rw [hf]
  exact hK _ _ _ _ _ _ h61 H locs ls cells slots hW hS hl (e_pv (e_pt hv) e_live.i) hle hbc hbs
theorem s_getL {c j idx : Nat} (d : decode (iB M) pc = .ok (.getfield idx, 3)) (hc : c < 7) (hj : j < e_N c) (hf : e_fk (e_y c j) = 2) (hw : Cond.fieldLink own idx (e_T c j).1 (e_T c j).2.1 (e_T c j).2.2.1 ∈ e_all) : e_Sd rf own M pc (t_getL c j pc) := by
  intro G mc ms p e R s m args below meth c0 Q S0 Qc Qx hG C hR hT K hK lc st S bc bs h H locs ls cells slots hW hS hl hv hle hbc hbs
  obtain ⟨k, i, r, rfl, h60⟩ := e_pQ_of h
  obtain ⟨hk, h61⟩ := e_cond h60
  obtain ⟨pz, hp, hpz⟩ := e_at (G := G) (e_in (e_ph hv) (e_kd_lt hk (by omega)))
  rw [e_cell_o (Nat.eq_of_beq_eq_true hk) hc] at hpz
  refine va_get C.1 C.2.1 C.2.2.2.2.1 (e_lay hc) C.2.2.2.1 C.2.2.2.2.2.1.1 hW.1 pz hpz (e_C_at hc) j hj (C.2.2.2.2.1 _ hw) (fun _ z => z) (e_fs_get hj) d ?_
  unfold e_fv
  rw [hf]
  exact hK _ _ _ _ _ _ h61 H locs ls cells slots hW hS hl (e_pv (e_pt hv) e_live.l) hle hbc hbs
theorem s_getR {c j idx : Nat} (d : decode (iB M) pc = .ok (.getfield idx, 3)) (hc : c < 7) (hj : j < e_N c) (hf : e_fk (e_y c j) = 1) (hw : Cond.fieldLink own idx (e_T c j).1 (e_T c j).2.1 (e_T c j).2.2.1 ∈ e_all) : e_Sd rf own M pc (t_getR rf c j pc) := by
  intro G mc ms p e R s m args below meth c0 Q S0 Qc Qx hG C hR hT K hK lc st S bc bs h H locs ls cells slots hW hS hl hv hle hbc hbs
  subst hG
  obtain ⟨k, i, r, rfl, h60⟩ := e_pQ_of h
  obtain ⟨hk, h61⟩ := e_cond h60
  have hm := e_in (e_ph hv) (e_kd_lt hk (by omega))
  have hj2 : j < e_pl (k, i) := by rw [e_pl_o (Nat.eq_of_beq_eq_true hk) hc]; exact hj
  obtain ⟨pz, hp, hpz⟩ := e_at (G := G) hm
  rw [e_cell_o (Nat.eq_of_beq_eq_true hk) hc] at hpz
  refine va_get C.1 C.2.1 C.2.2.2.2.1 (e_lay hc) C.2.2.2.1 C.2.2.2.2.2.1.1 hW.1 pz hpz (e_C_at hc) j hj (C.2.2.2.2.1 _ hw) (fun _ z => z) (e_fs_get hj) d ?_
  have hlive := e_rd_live hW.2.2 hm hj2
  unfold e_fv
  rw [hf]
  rw [e_rd_eq hW.2.2 hm hj2] at h61 hlive
  exact hK _ _ _ _ _ _ h61 H locs ls cells slots hW hS hl (e_pv (e_pt hv) hlive) hle hbc hbs
def t_putI (c j pc : Nat) : eTr := fun _ _ K lc st S bc bs => e_pI st fun x r => e_pQ r fun k i r => cond (Nat.beq (e_kd k) c) (K (pc + 3) lc r (sI S k i j x) bc bs) False
/-- a field of a narrow type takes what needs no narrowing -/
def t_putN (ty : FieldType) (c j pc : Nat) : eTr := fun _ _ K lc st S bc bs => e_pI st fun x r => e_pQ r fun k i r => cond (Nat.beq (e_kd k) c) ((narrow ty (.int x) = .int x ∧ fits ty (.int x) = true) ∧ K (pc + 3) lc r (sI S k i j x) bc bs) False
def t_putL (c j pc : Nat) : eTr := fun _ _ K lc st S bc bs => e_pL st fun x r => e_pQ r fun k i r => cond (Nat.beq (e_kd k) c) (K (pc + 3) lc r (sL S k i j x) bc bs) False
def t_putR (rf : Nat → Nat → Nat → Option (Nat × Nat)) (c j pc : Nat) : eTr := fun _ _ K lc st S bc bs => e_pO st fun o r => e_pQ r fun k i r => cond (Nat.beq (e_kd k) c) ((∀ q, rf k i j = some q → o = some q) ∧ K (pc + 3) lc r (sR S k i j o) bc bs) False
theorem s_putN {ty : FieldType} {c j idx : Nat} (d : decode (iB M) pc = .ok (.putfield idx, 3)) (hc : c < 7) (hj : j < e_N c) (hy : e_y c j = ty) (hf : e_fk (e_y c j) = 0) (hfin : (e_T c j).2.2.2 = false) (hw : Cond.fieldLink own idx (e_T c j).1 (e_T c j).2.1 (e_T c j).2.2.1 ∈ e_all) : e_Sd rf own M pc (t_putN ty c j pc) := by
  intro G mc ms p e R s m args below meth c0 Q S0 Qc Qx hG C hR hT K hK lc st S bc bs h H locs ls cells slots hW hS hl hv hle hbc hbs
  obtain ⟨x, r, rfl, h60⟩ := e_pI_of h
  obtain ⟨k, i, r, rfl, h61⟩ := e_pQ_of h60
  obtain ⟨hk, h62⟩ := e_cond h61
  obtain ⟨hn, h63⟩ := h62
  obtain ⟨pz, hp, hpz⟩ := e_at (G := G) (e_in (e_ph (e_pt hv)) (e_kd_lt hk (by omega)))
  rw [e_cell_o (Nat.eq_of_beq_eq_true hk) hc] at hpz
  refine va_put C.1 C.2.1 C.2.2.2.2.1 (e_lay hc) (e_y c) (e_y_ok hc) (e_nm hc) C.2.2.2.1 C.2.2.2.2.2.1.1 hW.1 hW.2.1 hS pz hpz (e_C_at hc) j hj (C.2.2.2.2.1 _ hw) (fun _ z => z) hfin (e_y_ok hc j hj) (by rw [hy]; exact hn.1) (by rw [hy]; exact hn.2) (by rw [List.length_map, List.length_range]; exact hj) d (fun H1 locs1 hP1 hD1 hS1 => ?_)
  have ev : Value.int x = e_fv G (sI S k i j x) k i c j := by
    unfold e_fv
    rw [hf]
    exact congrArg Value.int e_u3_eq.symm
  have es : (e_w G S).set pz (e_ad G S (k, i), .inr (c, ((List.range (e_N c)).map (e_fv G S k i c)).set j (.int x))) = e_w G (sI S k i j x) := by
    refine e_setI hp hW.2.2.2.1 ?_
    rw [e_cell_o (Nat.eq_of_beq_eq_true hk) hc, ev, e_fs_set hj]
    intro j2 hj2
    unfold e_fv
    rw [show mI (sI S k i j x) k i j2 = mI S k i j2 from e_u3_nj hj2]
    rfl
  have hP1 : va_P (gD G) e_C (e_w G (sI S k i j x)) H1 := by rw [← es]; exact hP1
  have hD1 : va_D (e_A G) (e_w G (sI S k i j x)) := by rw [← es]; exact hD1
  have hz := hK _ _ _ _ _ _ h63 H1 locs1 ls cells slots ⟨hP1, hD1, e_okI hW.2.2⟩ hS1 (e_lv_same rfl hl) (e_hv rfl (e_pt (e_pt hv))) (e_le_same rfl rfl hle) hbc hbs
  rw [e_cv_same (show mA (sI S k i j x) = mA S from rfl)] at hz
  exact hz
theorem s_putI {c j idx : Nat} (d : decode (iB M) pc = .ok (.putfield idx, 3)) (hc : c < 7) (hj : j < e_N c) (hy : e_y c j = .int) (hfin : (e_T c j).2.2.2 = false) (hw : Cond.fieldLink own idx (e_T c j).1 (e_T c j).2.1 (e_T c j).2.2.1 ∈ e_all) : e_Sd rf own M pc (t_putI c j pc) := by
  intro G mc ms p e R s m args below meth c0 Q S0 Qc Qx hG C hR hT K hK lc st S bc bs h
  refine s_putN (rf := rf) d hc hj hy (by rw [hy]; rfl) hfin hw G mc ms p e R s m args below meth c0 Q S0 Qc Qx hG C hR hT K hK lc st S bc bs ?_
  obtain ⟨x, r, rfl, h60⟩ := e_pI_of h
  obtain ⟨k, i, r, rfl, h61⟩ := e_pQ_of h60
  obtain ⟨hk, h62⟩ := e_cond h61
  show cond (Nat.beq (e_kd k) c) _ _
  rw [hk]
  exact ⟨⟨rfl, rfl⟩, h62⟩
theorem s_putL {c j idx : Nat} (d : decode (iB M) pc = .ok (.putfield idx, 3)) (hc : c < 7) (hj : j < e_N c) (hy : e_y c j = .long) (hfin : (e_T c j).2.2.2 = false) (hw : Cond.fieldLink own idx (e_T c j).1 (e_T c j).2.1 (e_T c j).2.2.1 ∈ e_all) : e_Sd rf own M pc (t_putL c j pc) := by
  intro G mc ms p e R s m args below meth c0 Q S0 Qc Qx hG C hR hT K hK lc st S bc bs h H locs ls cells slots hW hS hl hv hle hbc hbs
  obtain ⟨x, r, rfl, h60⟩ := e_pL_of h
  obtain ⟨k, i, r, rfl, h61⟩ := e_pQ_of h60
  obtain ⟨hk, h62⟩ := e_cond h61
  obtain ⟨pz, hp, hpz⟩ := e_at (G := G) (e_in (e_ph (e_pt hv)) (e_kd_lt hk (by omega)))
  rw [e_cell_o (Nat.eq_of_beq_eq_true hk) hc] at hpz
  refine va_put C.1 C.2.1 C.2.2.2.2.1 (e_lay hc) (e_y c) (e_y_ok hc) (e_nm hc) C.2.2.2.1 C.2.2.2.2.2.1.1 hW.1 hW.2.1 hS pz hpz (e_C_at hc) j hj (C.2.2.2.2.1 _ hw) (fun _ z => z) hfin (e_y_ok hc j hj) (by rw [hy]; rfl) (by rw [hy]; rfl) (by rw [List.length_map, List.length_range]; exact hj) d (fun H1 locs1 hP1 hD1 hS1 => ?_)
  have hf : e_fk (e_y c j) = 2 := by rw [hy]; rfl
  have ev : Value.long x = e_fv G (sL S k i j x) k i c j := by
    unfold e_fv
    rw [hf]
    exact congrArg Value.long e_u3_eq.symm
  have es : (e_w G S).set pz (e_ad G S (k, i), .inr (c, ((List.range (e_N c)).map (e_fv G S k i c)).set j (.long x))) = e_w G (sL S k i j x) := by
    refine e_setL hp hW.2.2.2.1 ?_
    rw [e_cell_o (Nat.eq_of_beq_eq_true hk) hc, ev, e_fs_set hj]
    intro j2 hj2
    unfold e_fv
    rw [show mL (sL S k i j x) k i j2 = mL S k i j2 from e_u3_nj hj2]
    rfl
  have hP1 : va_P (gD G) e_C (e_w G (sL S k i j x)) H1 := by rw [← es]; exact hP1
  have hD1 : va_D (e_A G) (e_w G (sL S k i j x)) := by rw [← es]; exact hD1
  have hz := hK _ _ _ _ _ _ h62 H1 locs1 ls cells slots ⟨hP1, hD1, e_okL hW.2.2⟩ hS1 (e_lv_same rfl hl) (e_hv rfl (e_pt (e_pt hv))) (e_le_same rfl rfl hle) hbc hbs
  rw [e_cv_same (show mA (sL S k i j x) = mA S from rfl)] at hz
  exact hz
theorem e_nrw {ty : FieldType} {o : Option Nat} (h : (∃ n, ty = .object n) ∨ ∃ t, ty = .array t) : narrow ty (va_rf o) = va_rf o ∧ fits ty (va_rf o) = true ∧ e_fk ty = 1 := by
  rcases h with ⟨n, rfl⟩ | ⟨t, rfl⟩ <;> cases o <;> exact ⟨rfl, rfl, rfl⟩
theorem s_putR {c j idx : Nat} (d : decode (iB M) pc = .ok (.putfield idx, 3)) (hc : c < 7) (hj : j < e_N c) (hy : (∃ n, e_y c j = .object n) ∨ ∃ t, e_y c j = .array t) (hfin : (e_T c j).2.2.2 = false ∨ ((e_T c j).2.2.2 = true ∧ (iN M).name = "<init>" ∧ (e_T c j).1 = own)) (hw : Cond.fieldLink own idx (e_T c j).1 (e_T c j).2.1 (e_T c j).2.2.1 ∈ e_all) : e_Sd rf own M pc (t_putR rf c j pc) := by
  intro G mc ms p e R s m args below meth c0 Q S0 Qc Qx hG C hR hT K hK lc st S bc bs h H locs ls cells slots hW hS hl hv hle hbc hbs
  subst hG
  obtain ⟨o, r, rfl, h60⟩ := e_pO_of h
  obtain ⟨k, i, r, rfl, h61⟩ := e_pQ_of h60
  obtain ⟨hk, h62⟩ := e_cond h61
  obtain ⟨hrf, h63⟩ := h62
  obtain ⟨pz, hp, hpz⟩ := e_at (G := G) (e_in (e_ph (e_pt hv)) (e_kd_lt hk (by omega)))
  rw [e_cell_o (Nat.eq_of_beq_eq_true hk) hc] at hpz
  have hnf := e_nrw (o := o.map (e_ad G S)) hy
  have kk : ∀ (H1 : Heap) (locs1 : List Loc), va_P (gD G) e_C ((e_w G S).set pz (e_ad G S (k, i), .inr (c, ((List.range (e_N c)).map (e_fv G S k i c)).set j (va_rf (o.map (e_ad G S)))))) H1 → va_D (e_A G) ((e_w G S).set pz (e_ad G S (k, i), .inr (c, ((List.range (e_N c)).map (e_fv G S k i c)).set j (va_rf (o.map (e_ad G S)))))) → va_S (e_A G) s.heap H1 locs1 → W p (gl G) e R s m args below meth c0 H1 locs1 cells slots Q (F0 m (pc + 3) ls (r.map (e_cv G S))) := by
    intro H1 locs1 hP1 hD1 hS1
    have ev : va_rf (o.map (e_ad G S)) = e_fv G (sR S k i j o) k i c j := by
      unfold e_fv
      rw [hnf.2.2]
      show _ = va_rf ((e_u3 (mR S) k i j o k i j).map (e_ad G (sR S k i j o)))
      rw [e_u3_eq]
      rfl
    have es : (e_w G S).set pz (e_ad G S (k, i), .inr (c, ((List.range (e_N c)).map (e_fv G S k i c)).set j (va_rf (o.map (e_ad G S))))) = e_w G (sR S k i j o) := by
      refine e_setR hp hW.2.2.2.1 ?_
      rw [e_cell_o (Nat.eq_of_beq_eq_true hk) hc, ev, e_fs_set hj]
      intro j2 hj2
      unfold e_fv
      rw [show mR (sR S k i j o) k i j2 = mR S k i j2 from e_u3_nj hj2]
      rfl
    rw [es] at hP1 hD1
    have hz := hK _ _ _ _ _ _ h63 H1 locs1 ls cells slots ⟨hP1, hD1, e_okR hW.2.2 (fun q hq => e_ph hv q (by rw [hq])) hrf⟩ hS1 (e_lv_same rfl hl) (e_hv rfl (e_pt (e_pt hv))) (e_le_same rfl rfl hle) hbc hbs
    rw [e_cv_same (show mA (sR S k i j o) = mA S from rfl)] at hz
    exact hz
  rcases hfin with hfin | ⟨hfin, hin, hdecl⟩
  · exact va_put C.1 C.2.1 C.2.2.2.2.1 (e_lay hc) (e_y c) (e_y_ok hc) (e_nm hc) C.2.2.2.1 C.2.2.2.2.2.1.1 hW.1 hW.2.1 hS pz hpz (e_C_at hc) j hj (C.2.2.2.2.1 _ hw) (fun _ z => z) hfin (e_y_ok hc j hj) hnf.1 hnf.2.1 (by rw [List.length_map, List.length_range]; exact hj) d kk
  · exact va_putF C.1 C.2.1 C.2.2.2.2.1 (e_lay hc) (e_y c) (e_y_ok hc) (e_nm hc) C.2.2.2.1 C.2.2.2.2.2.1.1 hW.1 hW.2.1 hS pz hpz (e_C_at hc) j hj (C.2.2.2.2.1 _ hw) (fun _ z => z) hfin (C.2.2.2.2.2.2.2.2.2.2.2.1 hin) hdecl (e_y_ok hc j hj) hnf.1 hnf.2.1 (by rw [List.length_map, List.length_range]; exact hj) d kk
-- arrays
def t_iald (pc : Nat) : eTr := fun _ _ K lc st S bc bs => e_pI st fun x r => e_pQ r fun k i r => cond (Nat.beq (e_kd k) 100) (vp_in x (e_ln k i) ∧ K (pc + 1) lc (.inl (mI S k i x.toNatClampNeg) :: r) S bc bs) False
def t_bald (pc : Nat) : eTr := fun _ _ K lc st S bc bs => e_pI st fun x r => e_pQ r fun k i r => cond (Nat.beq (e_kd k) 101) (vp_in x (e_ln k i) ∧ K (pc + 1) lc (.inl (mI S k i x.toNatClampNeg) :: r) S bc bs) False
theorem e_cell_i {G : eG} {S : eM} {k i t : Nat} (hk : e_kd k = 100 + t) (ht : e_fk (e_a t) = 0) : e_cell G S (k, i) = .inl (gA G t, e_ln k i, .inl (mI S k i)) := by
  rw [e_cell_a hk]
  unfold e_arr
  rw [ht]
  rfl
theorem e_cell_l {G : eG} {S : eM} {k i t : Nat} (hk : e_kd k = 100 + t) (ht : e_fk (e_a t) = 2) : e_cell G S (k, i) = .inl (gA G t, e_ln k i, .inr (.inl (mL S k i))) := by
  rw [e_cell_a hk]
  unfold e_arr
  rw [ht]
  rfl
theorem e_cell_r {G : eG} {S : eM} {k i t : Nat} (hk : e_kd k = 100 + t) (ht : e_fk (e_a t) = 1) : e_cell G S (k, i) = .inl (gA G t, e_ln k i, .inr (.inr (.inr (.inr (fun j => (mR S k i j).map (e_ad G S)))))) := by
  rw [e_cell_a hk]
  unfold e_arr
  rw [ht]
  rfl
theorem s_iald (d : decode (iB M) pc = .ok (.iaload, 1)) : e_Sd rf own M pc (t_iald pc) := by
  intro G mc ms p e R s m args below meth c0 Q S0 Qc Qx hG C hR hT K hK lc st S bc bs h H locs ls cells slots hW hS hl hv hle hbc hbs
  obtain ⟨x, r, rfl, h60⟩ := e_pI_of h
  obtain ⟨k, i, r, rfl, h61⟩ := e_pQ_of h60
  obtain ⟨hk, h62⟩ := e_cond h61
  obtain ⟨hin, h63⟩ := h62
  obtain ⟨pz, hp, hpz⟩ := e_at (G := G) (e_in (e_ph (e_pt hv)) (e_kd_lt hk (by decide)))
  rw [e_cell_i (t := 0) (Nat.eq_of_beq_eq_true hk) rfl] at hpz
  exact va_iald C.1 C.2.1 C.2.2.2.2.2.1.1 hW.1 pz 0 hpz rfl hin d (hK _ _ _ _ _ _ h63 H locs ls cells slots hW hS hl (e_pv (e_pt (e_pt hv)) e_live.i) hle hbc hbs)
theorem s_bald (d : decode (iB M) pc = .ok (.baload, 1)) : e_Sd rf own M pc (t_bald pc) := by
  intro G mc ms p e R s m args below meth c0 Q S0 Qc Qx hG C hR hT K hK lc st S bc bs h H locs ls cells slots hW hS hl hv hle hbc hbs
  obtain ⟨x, r, rfl, h60⟩ := e_pI_of h
  obtain ⟨k, i, r, rfl, h61⟩ := e_pQ_of h60
  obtain ⟨hk, h62⟩ := e_cond h61
  obtain ⟨hin, h63⟩ := h62
  obtain ⟨pz, hp, hpz⟩ := e_at (G := G) (e_in (e_ph (e_pt hv)) (e_kd_lt hk (by decide)))
  rw [e_cell_i (t := 1) (Nat.eq_of_beq_eq_true hk) rfl] at hpz
  exact va_bald C.1 C.2.1 C.2.2.2.2.2.1.1 hW.1 pz 1 hpz rfl hin d (hK _ _ _ _ _ _ h63 H locs ls cells slots hW hS hl (e_pv (e_pt (e_pt hv)) e_live.i) hle hbc hbs)
/-- a written index and the load behind it, as one step -/
def t_ialc (n len pc : Nat) : eTr := fun _ _ K lc st S bc bs => e_pQ st fun k i r => cond (Nat.beq (e_kd k) 100) (cond (Nat.blt n (e_ln k i)) (K (pc + len + 1) lc (.inl (mI S k i n) :: r) S bc bs) False) False
theorem s_ialc {x : Int32} {n len : Nat} (h1 : e_Sd rf own M pc (t_push (.inl x) len pc)) (d : decode (iB M) (pc + len) = .ok (.iaload, 1)) (hx : x = nI n) (hn : n < 65536) : e_Sd rf own M pc (t_ialc n len pc) := by
  intro G mc ms p e R s m args below meth c0 Q S0 Qc Qx hG C hR hT K hK lc st S bc bs h
  refine h1 G mc ms p e R s m args below meth c0 Q S0 Qc Qx hG C hR hT (fun pc2 lc2 st2 S2 bc2 bs2 => pc2 = pc + len ∧ t_iald (pc + len) Qc Qx K lc2 st2 S2 bc2 bs2) (fun pc2 lc2 st2 S2 bc2 bs2 h2 => ?_) lc st S bc bs ⟨rfl, ?_⟩
  · obtain ⟨rfl, h2⟩ := h2
    exact s_iald d G mc ms p e R s m args below meth c0 Q S0 Qc Qx hG C hR hT K hK lc2 st2 S2 bc2 bs2 h2
  · obtain ⟨k, i, r, rfl, h60⟩ := e_pQ_of h
    obtain ⟨hk, h61⟩ := e_cond h60
    obtain ⟨hb, h62⟩ := e_cond h61
    have hb := Nat.le_of_ble_eq_true hb
    show cond (Nat.beq (e_kd k) 100) _ _
    rw [hk]
    subst hx
    refine ⟨?_, ?_⟩
    · refine vp_in_iff.mpr ?_
      rw [nI_toInt (by omega)]
      have : n < e_ln k i := hb
      omega
    · rw [nI_clamp (by omega)]
      exact h62
def t_aald (rf : Nat → Nat → Nat → Option (Nat × Nat)) (t pc : Nat) : eTr := fun _ _ K lc st S bc bs => e_pI st fun x r => e_pQ r fun k i r => cond (Nat.beq (e_kd k) (100 + t)) (vp_in x (e_ln k i) ∧ K (pc + 1) lc (.inr (.inr (.inr (e_rd rf S k i x.toNatClampNeg))) :: r) S bc bs) False
theorem e_inlt {x : Int32} {n : Nat} (h : vp_in x n) : x.toNatClampNeg < n := Nat.not_le.mp fun q => h (Or.inr q)
theorem s_aald {t : Nat} (d : decode (iB M) pc = .ok (.aaload, 1)) (ht : t = 3 ∨ t = 4 ∨ t = 5) : e_Sd rf own M pc (t_aald rf t pc) := by
  intro G mc ms p e R s m args below meth c0 Q S0 Qc Qx hG C hR hT K hK lc st S bc bs h H locs ls cells slots hW hS hl hv hle hbc hbs
  subst hG
  obtain ⟨x, r, rfl, h60⟩ := e_pI_of h
  obtain ⟨k, i, r, rfl, h61⟩ := e_pQ_of h60
  obtain ⟨hk, h62⟩ := e_cond h61
  obtain ⟨hin, h63⟩ := h62
  have hm := e_in (e_ph (e_pt hv)) (e_kd_lt hk (by omega))
  have hj2 : x.toNatClampNeg < e_pl (k, i) := by rw [e_pl_a (Nat.eq_of_beq_eq_true hk)]; exact e_inlt hin
  obtain ⟨pz, hp, hpz⟩ := e_at (G := G) hm
  have ht2 : e_fk (e_a t) = 1 := by rcases ht with rfl | rfl | rfl <;> rfl
  obtain ⟨n, hn⟩ : ∃ n, e_a t = .object n := by rcases ht with rfl | rfl | rfl <;> exact ⟨_, rfl⟩
  rw [e_cell_r (t := t) (Nat.eq_of_beq_eq_true hk) ht2] at hpz
  have hlive := e_rd_live hW.2.2 hm hj2
  rw [e_rd_eq hW.2.2 hm hj2] at h63 hlive
  exact va_aldq C.1 C.2.1 C.2.2.2.2.2.1.1 hW.1 pz t hpz (by rw [e_TY_at (by omega), hn]) hin d (hK _ _ _ _ _ _ h63 H locs ls cells slots hW hS hl (e_pv (e_pt (e_pt hv)) hlive) hle hbc hbs)
def t_iast (pc : Nat) : eTr := fun _ _ K lc st S bc bs => e_pI st fun v r => e_pI r fun x r => e_pQ r fun k i r => cond (Nat.beq (e_kd k) 100) (vp_in x (e_ln k i) ∧ K (pc + 1) lc r (sI S k i x.toNatClampNeg v) bc bs) False
def t_bast (pc : Nat) : eTr := fun _ _ K lc st S bc bs => e_pI st fun v r => e_pI r fun x r => e_pQ r fun k i r => cond (Nat.beq (e_kd k) 101) (vp_in x (e_ln k i) ∧ K (pc + 1) lc r (sI S k i x.toNatClampNeg (vp_nar .byte v)) bc bs) False
theorem e_updI {S : eM} {k i j : Nat} {v : Int32} : mI (sI S k i j v) k i = upd (mI S k i) j v := by
  funext c
  show e_u3 (mI S) k i j v k i c = _
  unfold e_u3 upd
  by_cases hc : c = j
  · rw [if_pos ⟨rfl, rfl, hc⟩, if_pos hc]
  · rw [if_neg (fun z => hc z.2.2), if_neg hc]
theorem e_updL {S : eM} {k i j : Nat} {v : Int64} : mL (sL S k i j v) k i = vp_updL (mL S k i) j v := by
  funext c
  show e_u3 (mL S) k i j v k i c = _
  unfold e_u3 vp_updL
  by_cases hc : c = j
  · rw [if_pos ⟨rfl, rfl, hc⟩, if_pos hc]
  · rw [if_neg (fun z => hc z.2.2), if_neg hc]
theorem s_iast (d : decode (iB M) pc = .ok (.iastore, 1)) : e_Sd rf own M pc (t_iast pc) := by
  intro G mc ms p e R s m args below meth c0 Q S0 Qc Qx hG C hR hT K hK lc st S bc bs h H locs ls cells slots hW hS hl hv hle hbc hbs
  obtain ⟨v, r, rfl, h60⟩ := e_pI_of h
  obtain ⟨x, r, rfl, h61⟩ := e_pI_of h60
  obtain ⟨k, i, r, rfl, h62⟩ := e_pQ_of h61
  obtain ⟨hk, h63⟩ := e_cond h62
  obtain ⟨hin, h64⟩ := h63
  obtain ⟨pz, hp, hpz⟩ := e_at (G := G) (e_in (e_ph (e_pt (e_pt hv))) (e_kd_lt hk (by decide)))
  rw [e_cell_i (t := 0) (Nat.eq_of_beq_eq_true hk) rfl] at hpz
  refine va_iast C.1 C.2.1 C.2.2.2.2.2.1.1 hW.1 hW.2.1 hS pz 0 hpz rfl hin d (fun H1 locs1 hP1 hD1 hS1 => ?_)
  have es : (e_w G S).set pz (e_ad G S (k, i), .inl (gA G 0, e_ln k i, .inl (upd (mI S k i) x.toNatClampNeg v))) = e_w G (sI S k i x.toNatClampNeg v) :=
    e_setI hp hW.2.2.2.1 (by rw [e_cell_i (t := 0) (Nat.eq_of_beq_eq_true hk) rfl, e_updI])
  rw [es] at hP1 hD1
  have hz := hK _ _ _ _ _ _ h64 H1 locs1 ls cells slots ⟨hP1, hD1, e_okI hW.2.2⟩ hS1 (e_lv_same rfl hl) (e_hv rfl (e_pt (e_pt (e_pt hv)))) (e_le_same rfl rfl hle) hbc hbs
  rw [e_cv_same (show mA (sI S k i x.toNatClampNeg v) = mA S from rfl)] at hz
  exact hz
theorem s_bast (d : decode (iB M) pc = .ok (.bastore, 1)) : e_Sd rf own M pc (t_bast pc) := by
  intro G mc ms p e R s m args below meth c0 Q S0 Qc Qx hG C hR hT K hK lc st S bc bs h H locs ls cells slots hW hS hl hv hle hbc hbs
  obtain ⟨v, r, rfl, h60⟩ := e_pI_of h
  obtain ⟨x, r, rfl, h61⟩ := e_pI_of h60
  obtain ⟨k, i, r, rfl, h62⟩ := e_pQ_of h61
  obtain ⟨hk, h63⟩ := e_cond h62
  obtain ⟨hin, h64⟩ := h63
  obtain ⟨pz, hp, hpz⟩ := e_at (G := G) (e_in (e_ph (e_pt (e_pt hv))) (e_kd_lt hk (by decide)))
  rw [e_cell_i (t := 1) (Nat.eq_of_beq_eq_true hk) rfl] at hpz
  refine va_bast C.1 C.2.1 C.2.2.2.2.2.1.1 hW.1 hW.2.1 hS pz 1 hpz rfl hin d (fun H1 locs1 hP1 hD1 hS1 => ?_)
  have es : (e_w G S).set pz (e_ad G S (k, i), .inl (gA G 1, e_ln k i, .inl (upd (mI S k i) x.toNatClampNeg (vp_nar .byte v)))) = e_w G (sI S k i x.toNatClampNeg (vp_nar .byte v)) :=
    e_setI hp hW.2.2.2.1 (by rw [e_cell_i (t := 1) (Nat.eq_of_beq_eq_true hk) rfl, e_updI])
  rw [es] at hP1 hD1
  have hz := hK _ _ _ _ _ _ h64 H1 locs1 ls cells slots ⟨hP1, hD1, e_okI hW.2.2⟩ hS1 (e_lv_same rfl hl) (e_hv rfl (e_pt (e_pt (e_pt hv)))) (e_le_same rfl rfl hle) hbc hbs
  rw [e_cv_same (show mA (sI S k i x.toNatClampNeg (vp_nar .byte v)) = mA S from rfl)] at hz
  exact hz
/-- the component of an array of objects -/
def e_cm : Nat → Nat
  | 3 => 2 | 4 => 1 | _ => 0
def t_aast (rf : Nat → Nat → Nat → Option (Nat × Nat)) (t pc : Nat) : eTr := fun _ _ K lc st S bc bs => e_pQ st fun k2 i2 r => e_pI r fun x r => e_pQ r fun k i r => cond (Nat.beq (e_kd k) (100 + t)) (cond (Nat.beq (e_kd k2) (e_cm t)) (vp_in x (e_ln k i) ∧ (∀ q, rf k i x.toNatClampNeg = some q → some (k2, i2) = some q) ∧ K (pc + 1) lc r (sR S k i x.toNatClampNeg (some (k2, i2))) bc bs) False) False
theorem e_updR {G : eG} {S : eM} {k i j : Nat} {q : Nat × Nat} : (fun z => (mR (sR S k i j (some q)) k i z).map (e_ad G (sR S k i j (some q)))) = va_up (fun z => (mR S k i z).map (e_ad G S)) j (some (e_ad G S q)) := by
  funext c
  show (e_u3 (mR S) k i j (some q) k i c).map (e_ad G S) = _
  unfold e_u3 va_up
  by_cases hc : c = j
  · rw [if_pos ⟨rfl, rfl, hc⟩, if_pos hc]
    rfl
  · rw [if_neg (fun z => hc z.2.2), if_neg hc]
theorem s_aast {t : Nat} (d : decode (iB M) pc = .ok (.aastore, 1)) (ht : t = 3 ∨ t = 4 ∨ t = 5) : e_Sd rf own M pc (t_aast rf t pc) := by
  intro G mc ms p e R s m args below meth c0 Q S0 Qc Qx hG C hR hT K hK lc st S bc bs h H locs ls cells slots hW hS hl hv hle hbc hbs
  subst hG
  obtain ⟨k2, i2, r, rfl, h60⟩ := e_pQ_of h
  obtain ⟨x, r, rfl, h61⟩ := e_pI_of h60
  obtain ⟨k, i, r, rfl, h62⟩ := e_pQ_of h61
  obtain ⟨hk, h63⟩ := e_cond h62
  obtain ⟨hk2, h64⟩ := e_cond h63
  obtain ⟨hin, hrf, h65⟩ := h64
  have hc2 : e_cm t < 7 := by rcases ht with rfl | rfl | rfl <;> decide
  have hm2 := e_in (e_ph hv) (e_kd_lt hk2 (by omega))
  obtain ⟨pz, hp, hpz⟩ := e_at (G := G) (e_in (e_ph (e_pt (e_pt hv))) (e_kd_lt hk (by omega)))
  obtain ⟨pz2, hp2, hpz2⟩ := e_at (G := G) hm2
  have ht2 : e_fk (e_a t) = 1 := by rcases ht with rfl | rfl | rfl <;> rfl
  have hty : (e_TY G)[t]? = some (gA G t, .object (e_R (e_cm t), e_T (e_cm t), e_N (e_cm t)).1) := by rcases ht with rfl | rfl | rfl <;> rfl
  rw [e_cell_r (t := t) (Nat.eq_of_beq_eq_true hk) ht2] at hpz
  rw [e_cell_o (Nat.eq_of_beq_eq_true hk2) hc2] at hpz2
  refine va_astq C.1 C.2.1 C.2.2.2.2.2.1.1 hW.1 hW.2.1 hS pz t pz2 (e_cm t) hpz hty hpz2 (e_C_at hc2) hin d (fun H1 locs1 hP1 hD1 hS1 => ?_)
  have es : (e_w G S).set pz (e_ad G S (k, i), .inl (gA G t, e_ln k i, .inr (.inr (.inr (.inr (va_up (fun z => (mR S k i z).map (e_ad G S)) x.toNatClampNeg (some (e_ad G S (k2, i2))))))))) = e_w G (sR S k i x.toNatClampNeg (some (k2, i2))) :=
    e_setR hp hW.2.2.2.1 (by rw [e_cell_r (t := t) (Nat.eq_of_beq_eq_true hk) ht2, e_updR])
  rw [es] at hP1 hD1
  have hz := hK _ _ _ _ _ _ h65 H1 locs1 ls cells slots ⟨hP1, hD1, e_okR hW.2.2 (fun q hq => by cases hq; exact Or.inl hm2) hrf⟩ hS1 (e_lv_same rfl hl) (e_hv rfl (e_pt (e_pt (e_pt hv)))) (e_le_same rfl rfl hle) hbc hbs
  rw [e_cv_same (show mA (sR S k i x.toNatClampNeg (some (k2, i2))) = mA S from rfl)] at hz
  exact hz
def t_alen (pc : Nat) : eTr := fun _ _ K lc st S bc bs => e_pQ st fun k i r => cond (Nat.blt k 20) (cond (Nat.ble 100 (e_kd k)) (K (pc + 1) lc (.inl (Int32.ofNat (e_ln k i)) :: r) S bc bs) False) False
theorem s_alen (d : decode (iB M) pc = .ok (.arraylength, 1)) : e_Sd rf own M pc (t_alen pc) := by
  intro G mc ms p e R s m args below meth c0 Q S0 Qc Qx hG C hR hT K hK lc st S bc bs h H locs ls cells slots hW hS hl hv hle hbc hbs
  obtain ⟨k, i, r, rfl, h60⟩ := e_pQ_of h
  obtain ⟨hk, h61⟩ := e_cond h60
  obtain ⟨hk2, h62⟩ := e_cond h61
  have hk2 := Nat.le_of_ble_eq_true hk2
  obtain ⟨pz, hp, hpz⟩ := e_at (G := G) (e_in (e_ph hv) (Nat.le_of_ble_eq_true hk))
  obtain ⟨t, ht, hkt⟩ : ∃ t, t < 6 ∧ e_kd k = 100 + t := by
    have : ∀ k, k < 20 → 100 ≤ e_kd k → e_kd k < 106 := by decide
    exact ⟨e_kd k - 100, by have := this k (Nat.le_of_ble_eq_true hk) hk2; omega, by omega⟩
  rw [e_cell_a hkt] at hpz
  exact va_alen C.1 C.2.1 C.2.2.2.2.2.1.1 hW.1 pz t hpz (e_TY_at ht) rfl d (hK _ _ _ _ _ _ h62 H locs ls cells slots hW hS hl (e_pv (e_pt hv) e_live.i) hle hbc hbs)
-- HIGHEST_SETTINGS
theorem s_getH {idx : Nat} (d : decode (iB M) pc = .ok (.getstatic idx, 3)) (hw : Cond.fieldLink own idx RX0 "HIGHEST_SETTINGS" "[I" ∈ e_all) : e_Sd rf own M pc (t_push (aR 22 0) 3 pc) := by
  intro G mc ms p e R s m args below meth c0 Q S0 Qc Qx hG C hR hT K hK lc st S bc bs h H locs ls cells slots hW hS hl hv hle hbc hbs
  exact va_gets C.1 C.2.1 C.2.2.2.2.2.1.2.1 hS C.2.2.2.1 (C.2.2.2.2.1 _ hw) (fun _ z => z) d (hK _ _ _ _ _ _ h H locs ls cells slots hW hS hl (e_pv hv (e_live.o (fun q z => by cases z; exact Or.inr (by decide)))) hle hbc hbs)
def t_hald (pc : Nat) : eTr := fun _ _ K lc st S bc bs => e_pI st fun x r => e_pQ r fun k i r => (k = 22 ∧ i = 0) ∧ vp_in x 3 ∧ K (pc + 1) lc (.inl (e_hs x.toNatClampNeg) :: r) S bc bs
theorem s_hald (d : decode (iB M) pc = .ok (.iaload, 1)) : e_Sd rf own M pc (t_hald pc) := by
  intro G mc ms p e R s m args below meth c0 Q S0 Qc Qx hG C hR hT K hK lc st S bc bs h H locs ls cells slots hW hS hl hv hle hbc hbs
  obtain ⟨x, r, rfl, h60⟩ := e_pI_of h
  obtain ⟨k, i, r, rfl, h61⟩ := e_pQ_of h60
  obtain ⟨⟨rfl, rfl⟩, hin, h62⟩ := h61
  exact va_ti C.1 C.2.1 C.2.2.2.2.2.1.2.2.1 hS hin rfl d (hK _ _ _ _ _ _ h62 H locs ls cells slots hW hS hl (e_pv (e_pt (e_pt hv)) e_live.i) hle hbc hbs)
def t_hlen (pc : Nat) : eTr := fun _ _ K lc st S bc bs => e_pQ st fun k i r => (k = 22 ∧ i = 0) ∧ K (pc + 1) lc (.inl 3 :: r) S bc bs
theorem s_hlen (d : decode (iB M) pc = .ok (.arraylength, 1)) : e_Sd rf own M pc (t_hlen pc) := by
  intro G mc ms p e R s m args below meth c0 Q S0 Qc Qx hG C hR hT K hK lc st S bc bs h H locs ls cells slots hW hS hl hv hle hbc hbs
  obtain ⟨k, i, r, rfl, h60⟩ := e_pQ_of h
  obtain ⟨⟨rfl, rfl⟩, h61⟩ := h60
  exact va_tlen C.1 C.2.1 C.2.2.2.2.2.1.2.2.1 hS (v := 3) (by decide) d (hK _ _ _ _ _ _ h61 H locs ls cells slots hW hS hl (e_pv (e_pt hv) e_live.i) hle hbc hbs)
end Heap
