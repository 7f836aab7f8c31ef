/-! THE ENGINE, 5: Math, arraycopy, Object's constructor; what final references are; readings of receivers. Own work. -/
/-- what final fields and filled rows hold once all is made -/
def e_rf : Nat → Nat → Nat → Option (Nat × Nat)
  | 0, _, j => match j with
    | 0 => some (1, 0) | 1 => some (1, 1) | 3 => some (8, 0) | 5 => some (12, 0) | 6 => some (9, 0) | 7 => some (10, 0) | _ => none
  | 1, b, j => match j with
    | 0 => some (4, b) | 2 => some (5, b) | 4 => some (6, b) | 6 => some (7, b) | _ => none
  | 4, b, j => some (2, 10 * b + j)
  | 5, b, j => some (3, 10 * b + j)
  | 12, _, _ => some (10, 1)
  | 13, _, j => match j with
    | 0 => some (14, 0) | 1 => some (14, 1) | 3 => some (14, 2) | 5 => some (14, 3) | 6 => some (14, 4) | 9 => some (14, 5) | _ => none
  | _, _, _ => none
def e_self (kk : Nat) (As : List eV) (f : Nat → List eV → Prop) : Prop := e_pQ As fun k i r => cond (Nat.beq k kk) (f i r) False
theorem e_self_of {kk : Nat} {As : List eV} {f : Nat → List eV → Prop} (h : e_self kk As f) : ∃ i r, As = aR kk i :: r ∧ f i r := by
  obtain ⟨k, i, r, h1, h2⟩ := e_pQ_of h
  obtain ⟨h3, h4⟩ := e_cond h2
  cases Nat.eq_of_beq_eq_true h3
  exact ⟨i, r, h1, h4⟩
theorem e_self_rec {kk c : Nat} (hk : e_kd kk = c) {f : eM → eQ → Nat → List eV → Prop} : ∀ (As : List eV) (S : eM) (post : eQ), e_self kk As (f S post) → ∃ k i r, As = aR k i :: r ∧ e_kd k = c := fun _ _ _ h => by
  obtain ⟨i, r, h1, -⟩ := e_self_of h
  exact ⟨kk, i, r, h1, hk⟩
/-- a method read by its own steps: run through (no loops), or as a walk -/
def e_inl (tb : eTb) (n : Nat) : eW := fun As S post => cond (Nat.ble (e_l1 As).length n) (e_go tb [] post e_no (e_Run tb post e_no) 200 0 (e_l0 As n) [] S 0 0) False
def e_rn (tb : eTb) (n mc ms : Nat) : eW := fun As S post => cond (Nat.ble (e_l1 As).length n) (e_Run tb post e_no 0 (e_l0 As n) [] S mc ms) False
def e_sf (kk : Nat) (w : eW) : eW := fun As S post => e_self kk As fun _ _ => w As S post
theorem e_sf_rec {kk c : Nat} (hk : e_kd kk = c) {w : eW} : ∀ (As : List eV) (S : eM) (post : eQ), e_sf kk w As S post → ∃ k i r, As = aR k i :: r ∧ e_kd k = c := fun _ _ _ h => by
  obtain ⟨i, r, h1, -⟩ := e_self_of h
  exact ⟨kk, i, r, h1, hk⟩
theorem k_in {rf : Nat → Nat → Nat → Option (Nat × Nat)} {own : String} {M : eI} {tb : eTb} (hM : plainName (iN M).cls = true ∧ (iN M).cls = own) (htb : ∀ x ∈ tb, e_Sd rf own M x.1 x.2) : e_OK rf M 0 0 (e_inl tb (iL M)) := by
  intro G hG As S post h
  obtain ⟨h1, h2⟩ := e_cond h
  exact e_made hM htb hG h1 (e_walk 200 h2)
theorem k_rn {rf : Nat → Nat → Nat → Option (Nat × Nat)} {own : String} {M : eI} {tb : eTb} {mc ms : Nat} (hM : plainName (iN M).cls = true ∧ (iN M).cls = own) (htb : ∀ x ∈ tb, e_Sd rf own M x.1 x.2) : e_OK rf M mc ms (e_rn tb (iL M) mc ms) := by
  intro G hG As S post h
  obtain ⟨h1, h2⟩ := e_cond h
  exact e_made hM htb hG h1 h2
theorem k_sf {rf : Nat → Nat → Nat → Option (Nat × Nat)} {M : eI} {mc ms kk : Nat} {w : eW} (h : e_OK rf M mc ms w) : e_OK rf M mc ms (e_sf kk w) := by
  intro G hG As S post h2
  obtain ⟨i, r, -, h3⟩ := e_self_of h2
  exact h G hG As S post h3
theorem e_no_more {P : Nat × eTr → Prop} : ∀ x ∈ ([] : List (Nat × eTr)), P x := fun _ h => absurd h List.not_mem_nil
theorem e_more {P : Nat × eTr → Prop} {y : Nat × eTr} {l : List (Nat × eTr)} (h : P y) (t : ∀ x ∈ l, P x) : ∀ x ∈ y :: l, P x := fun x hx => (List.mem_cons.mp hx).elim (fun e => e ▸ h) (t x)
theorem e_app {P : Nat × eTr → Prop} {a b : List (Nat × eTr)} (h : ∀ x ∈ a, P x) (t : ∀ x ∈ b, P x) : ∀ x ∈ a ++ b, P x := fun x hx => (List.mem_append.mp hx).elim (h x) (t x)
/-- a reading of a method that may throw -/
abbrev eWX : Type := List eV → eM → eQ → eX → Prop
def e_OX (rf : Nat → Nat → Nat → Option (Nat × Nat)) (M : eI) (mc ms : Nat) (w : eWX) : Prop := ∀ G : eG, e_gd rf G → ∀ (As : List eV) (S : eM) (post : eQ) (X : eX), w As S post X → e_Ct G M mc ms As S post X
def e_rnx (tb : eTb) (n mc ms : Nat) : eWX := fun As S post X => cond (Nat.ble (e_l1 As).length n) (e_Run tb post X 0 (e_l0 As n) [] S mc ms) False
def e_sfx (kk : Nat) (w : eWX) : eWX := fun As S post X => e_self kk As fun _ _ => w As S post X
theorem e_sfx_rec {kk c : Nat} (hk : e_kd kk = c) {w : eWX} : ∀ (As : List eV) (S : eM) (post : eQ) (X : eX), e_sfx kk w As S post X → ∃ k i r, As = aR k i :: r ∧ e_kd k = c := fun _ _ _ _ h => by
  obtain ⟨i, r, h1, -⟩ := e_self_of h
  exact ⟨kk, i, r, h1, hk⟩
theorem kx_rn {rf : Nat → Nat → Nat → Option (Nat × Nat)} {own : String} {M : eI} {tb : eTb} {mc ms : Nat} (hM : plainName (iN M).cls = true ∧ (iN M).cls = own) (htb : ∀ x ∈ tb, e_Sd rf own M x.1 x.2) : e_OX rf M mc ms (e_rnx tb (iL M) mc ms) := by
  intro G hG As S post X h
  obtain ⟨h1, h2⟩ := e_cond h
  exact e_made hM htb hG h1 h2
theorem kx_sf {rf : Nat → Nat → Nat → Option (Nat × Nat)} {M : eI} {mc ms kk : Nat} {w : eWX} (h : e_OX rf M mc ms w) : e_OX rf M mc ms (e_sfx kk w) := by
  intro G hG As S post X h2
  obtain ⟨i, r, -, h3⟩ := e_self_of h2
  exact h G hG As S post X h3
section More
variable {rf : Nat → Nat → Nat → Option (Nat × Nat)} {own : String} {M : eI} {pc : Nat}
theorem s_max {idx : Nat} (d : decode (iB M) pc = .ok (.invokestatic idx, 3)) (hl0 : Cond.methodLink own idx Lib.Math.max.name ∈ e_all) (hi : Cond.static Lib.Math.max.name ∈ e_all) (hn : Cond.initialized "java/lang/Math" ∈ e_all) (hc : Cond.code Lib.Math.max.name Lib.Math.max.code 2 (some .int) ∈ e_all) (hD : 1 ≤ iD M) : e_Sd rf own M pc (fun _ _ K lc st S bc bs => e_pI st fun b r => e_pI r fun a r => cond (Nat.ble (e_sz r) 8) (K (pc + 3) lc (.inl (if a < b then b else a) :: r) S bc bs) False) := by
  intro G mc ms p e R s m args below meth c0 Q S0 Qc Qx hG C hR hT K hK lc st S bc bs h H locs ls cells slots hW hS hl hv hle hbc hbs
  obtain ⟨b, r, rfl, h60⟩ := e_pI_of h
  obtain ⟨a, r, rfl, h61⟩ := e_pI_of h60
  obtain ⟨h8, h62⟩ := e_cond h61
  obtain ⟨hx, hb, hml, ho, hts, hSt, hgb, hdf, hdl, hRc, hRs, -⟩ := C
  have hsz : ((r.map (e_cv G S)).map fun v => v.category).sum ≤ 8 := by rw [e_sz_eq]; exact Nat.le_of_ble_eq_true h8
  exact va_mmax hx hb (hml.trans hl.1.symm) ho (hts _ hl0) (hts _ hi) (hts _ hn) (hts _ hc) (by omega) (by omega) (by omega) (by omega) d (hK _ _ _ _ _ _ h62 H locs ls cells slots hW hS hl (e_pv (e_pt (e_pt hv)) e_live.i) hle hbc hbs)
theorem s_min {idx : Nat} (d : decode (iB M) pc = .ok (.invokestatic idx, 3)) (hl0 : Cond.methodLink own idx Lib.Math.min.name ∈ e_all) (hi : Cond.static Lib.Math.min.name ∈ e_all) (hn : Cond.initialized "java/lang/Math" ∈ e_all) (hc : Cond.code Lib.Math.min.name Lib.Math.min.code 2 (some .int) ∈ e_all) (hD : 1 ≤ iD M) : e_Sd rf own M pc (fun _ _ K lc st S bc bs => e_pI st fun b r => e_pI r fun a r => cond (Nat.ble (e_sz r) 8) (K (pc + 3) lc (.inl (if b < a then b else a) :: r) S bc bs) False) := by
  intro G mc ms p e R s m args below meth c0 Q S0 Qc Qx hG C hR hT K hK lc st S bc bs h H locs ls cells slots hW hS hl hv hle hbc hbs
  obtain ⟨b, r, rfl, h60⟩ := e_pI_of h
  obtain ⟨a, r, rfl, h61⟩ := e_pI_of h60
  obtain ⟨h8, h62⟩ := e_cond h61
  obtain ⟨hx, hb, hml, ho, hts, hSt, hgb, hdf, hdl, hRc, hRs, -⟩ := C
  have hsz : ((r.map (e_cv G S)).map fun v => v.category).sum ≤ 8 := by rw [e_sz_eq]; exact Nat.le_of_ble_eq_true h8
  exact va_mmin hx hb (hml.trans hl.1.symm) ho (hts _ hl0) (hts _ hi) (hts _ hn) (hts _ hc) (by omega) (by omega) (by omega) (by omega) d (hK _ _ _ _ _ _ h62 H locs ls cells slots hW hS hl (e_pv (e_pt (e_pt hv)) e_live.i) hle hbc hbs)
/-- Object's constructor -/
theorem s_obj {idx : Nat} (d : decode (iB M) pc = .ok (.invokespecial idx, 3)) (hl0 : Cond.methodLink own idx Lib.objectInit ∈ e_all) (hi : Cond.instanceMethod Lib.objectInit ∈ e_all) (hc : Cond.code Lib.objectInit ⟨#[0xb1]⟩ 1 none ∈ e_all) (hD : 1 ≤ iD M) : e_Sd rf own M pc (fun _ _ K lc st S bc bs => e_pQ st fun _ _ r => cond (Nat.ble (e_sz r) 8) (K (pc + 3) lc r S bc bs) False) := by
  intro G mc ms p e R s m args below meth c0 Q S0 Qc Qx hG C hR hT K hK lc st S bc bs h H locs ls cells slots hW hS hl hv hle hbc hbs
  obtain ⟨k, i, r, rfl, h60⟩ := e_pQ_of h
  obtain ⟨h8, h61⟩ := e_cond h60
  obtain ⟨hx, hb, hml, ho, hts, hSt, hgb, hdf, hdl, hRc, hRs, -⟩ := C
  have hsz : ((r.map (e_cv G S)).map fun v => v.category).sum ≤ 8 := by rw [e_sz_eq]; exact Nat.le_of_ble_eq_true h8
  exact W.objInit (g := F0 m pc ls ((aR k i :: r).map (e_cv G S))) hx hb ho (hts _ hl0) (hts _ hi) (hts _ hc) rfl (hl.1.trans hml.symm) rfl d (by omega) (by show 2 * 0 + _ + 12 ≤ _; omega) (hK _ _ _ _ _ _ h61 H locs ls cells slots hW hS hl (e_pt hv) hle hbc hbs)
/-- System.arraycopy between rows of ints -/
def e_cpy (S : eM) (k0 i0 k i sp dp n : Nat) : eM := (fun a b => if a = k ∧ b = i then va_cpy (mI S k0 i0) (mI S k i) sp dp n else mI S a b, S.2)
def t_acp (t pc : Nat) : eTr := fun _ _ K lc st S bc bs => e_pI st fun n r => e_pI r fun dp r => e_pQ r fun k i r => e_pI r fun sp r => e_pQ r fun k0 i0 r => cond (Nat.beq (e_kd k) (100 + t)) (cond (Nat.beq (e_kd k0) (100 + t)) (cond (Nat.ble (e_sz r) 8)
  ((¬ sp < 0 ∧ ¬ dp < 0 ∧ ¬ n < 0 ∧ sp.toNatClampNeg + n.toNatClampNeg ≤ e_ln k0 i0 ∧ dp.toNatClampNeg + n.toNatClampNeg ≤ e_ln k i ∧ ∀ j, j < n.toNatClampNeg → fits (e_a t) (.int (mI S k0 i0 (sp.toNatClampNeg + j))) = true) ∧ K (pc + 3) lc r (e_cpy S k0 i0 k i sp.toNatClampNeg dp.toNatClampNeg n.toNatClampNeg) bc bs) False) False) False
theorem e_cpy_set {G : eG} {S : eM} {k0 i0 k i sp dp n p t : Nat} (hk : e_kd k = 100 + t) (ht : e_fk (e_a t) = 0) (hp : (mP S)[p]? = some (k, i)) (hn : (mP S).Nodup) : (e_w G S).set p (e_ad G S (k, i), .inl (gA G t, e_ln k i, .inl (va_cpy (mI S k0 i0) (mI S k i) sp dp n))) = e_w G (e_cpy S k0 i0 k i sp dp n) := by
  refine e_set hp hn rfl rfl (fun q2 h => e_cell_of (S := S) (S2 := e_cpy S k0 i0 k i sp dp n) rfl ?_ rfl rfl) ?_
  · show (if q2.1 = k ∧ q2.2 = i then _ else mI S q2.1 q2.2) = _
    rw [if_neg]
    rintro ⟨h1, h2⟩
    exact h (by rw [← h1, ← h2])
  · rw [e_cell_i hk ht]
    show Sum.inl (gA G t, e_ln k i, Sum.inl (if k = k ∧ i = i then va_cpy (mI S k0 i0) (mI S k i) sp dp n else mI S k i)) = _
    rw [if_pos ⟨rfl, rfl⟩]
theorem s_acp {t idx : Nat} (d : decode (iB M) pc = .ok (.invokestatic idx, 3)) (ht : t = 0 ∨ t = 1) (hl0 : Cond.methodLink own idx arraycopyName ∈ e_all) (hi : Cond.static arraycopyName ∈ e_all) (hnat : Cond.native arraycopyName ∈ e_all) (hn : Cond.initialized "java/lang/System" ∈ e_all) (hD : 1 ≤ iD M) : e_Sd rf own M pc (t_acp t pc) := by
  intro G mc ms p e R s m args below meth c0 Q S0 Qc Qx hG C hR hT K hK lc st S bc bs h H locs ls cells slots hW hS hl hv hle hbc hbs
  obtain ⟨n, r, rfl, h60⟩ := e_pI_of h
  obtain ⟨dp, r, rfl, h61⟩ := e_pI_of h60
  obtain ⟨k, i, r, rfl, h62⟩ := e_pQ_of h61
  obtain ⟨sp, r, rfl, h63⟩ := e_pI_of h62
  obtain ⟨k0, i0, r, rfl, h64⟩ := e_pQ_of h63
  obtain ⟨hk, h65⟩ := e_cond h64
  obtain ⟨hk0, h66⟩ := e_cond h65
  obtain ⟨h8, h67⟩ := e_cond h66
  obtain ⟨hvc, h68⟩ := h67
  obtain ⟨v1, v2, v3, v4, v5, v6⟩ := hvc
  obtain ⟨hx, hb, hml, ho, hts, hSt, hgb, hdf, hdl, hRc, hRs, -⟩ := C
  have hsz : ((r.map (e_cv G S)).map fun v => v.category).sum ≤ 8 := by rw [e_sz_eq]; exact Nat.le_of_ble_eq_true h8
  have hne : 100 + t ≠ 102 := by omega
  obtain ⟨pz, hp, hpz⟩ := e_at (G := G) (e_in (e_ph (e_pt (e_pt hv))) (e_kd_lt hk hne))
  obtain ⟨pz0, hp0, hpz0⟩ := e_at (G := G) (e_in (e_ph (e_pt (e_pt (e_pt (e_pt hv))))) (e_kd_lt hk0 hne))
  have hft : e_fk (e_a t) = 0 := by rcases ht with rfl | rfl <;> rfl
  have hrk : refKind (e_a t) = false := by rcases ht with rfl | rfl <;> rfl
  rw [e_cell_i (t := t) (Nat.eq_of_beq_eq_true hk) hft] at hpz
  rw [e_cell_i (t := t) (Nat.eq_of_beq_eq_true hk0) hft] at hpz0
  refine va_copyi hx hb (hml.trans hl.1.symm) ho (hts _ hl0) (hts _ hnat) (hts _ hi) (hts _ hn) hSt.1 hW.1 hW.2.1 hS pz0 pz t t hpz0 hpz (e_TY_at (by omega)) (e_TY_at (by omega)) hrk v1 v2 v3 v4 v5 v6 (by omega) (by have hw : nativeFrameWords "java/lang/System" "arraycopy" 5 ≤ 45 := (by decide +kernel); omega) d (fun H1 locs1 hP1 hD1 hS1 => ?_)
  have hP1 : va_P (gD G) e_C (e_w G (e_cpy S k0 i0 k i sp.toNatClampNeg dp.toNatClampNeg n.toNatClampNeg)) H1 := by rw [← e_cpy_set (Nat.eq_of_beq_eq_true hk) hft hp hW.2.2.2.1]; exact hP1
  have hD1 : va_D (e_A G) (e_w G (e_cpy S k0 i0 k i sp.toNatClampNeg dp.toNatClampNeg n.toNatClampNeg)) := by rw [← e_cpy_set (Nat.eq_of_beq_eq_true hk) hft hp hW.2.2.2.1]; exact hD1
  have hz := hK _ _ _ _ _ _ h68 H1 locs1 ls cells slots ⟨hP1, hD1, hW.2.2⟩ hS1 (e_lv_same rfl hl) (e_hv rfl (e_pt (e_pt (e_pt (e_pt (e_pt hv)))))) (e_le_same rfl rfl hle) hbc hbs
  rw [e_cv_same (show mA (e_cpy S k0 i0 k i sp.toNatClampNeg dp.toNatClampNeg n.toNatClampNeg) = mA S from rfl)] at hz
  exact hz
end More
