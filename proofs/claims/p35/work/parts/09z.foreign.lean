/-! THE ENGINE, 6: literals and other foreign things, calls of what is inherited, things newly made. Own work. -/
/-- a private method is what its resolution selects, whatever the receiver's class -/
theorem e_selP {C : String} {c : ClassId} {y : MethodName} {s : State} {args : Array Value} (hc : s.vm.findClass C = some c) (hsame : (Cond.sameMethod y.cls y.cls y.name y.desc).before args s = true) (hpriv : (Cond.privateMethod y).before args s = true) (hinst : (Cond.instanceMethod y).before args s = true) : (Cond.selects C y y).before args s = true := by
  obtain ⟨cn, ck, r1, hcn, hck, hni, hf, hn1⟩ := Cond.sameMethod_found hsame
  obtain ⟨mk, methM, hnamed, hmethM, -, -⟩ := Cond.instanceMethod_spec hinst
  have hn1 : s.methodNamed? y = some r1 := hn1
  cases hn1.symm.trans hnamed
  have hcls : r1.cls = cn := Option.some.inj ((findClass_of_methodNamed hnamed).symm.trans hcn)
  have hsel : selectMethod {} s.vm c r1 = .method r1 := selectMethod_private hmethM (Cond.privateMethod_at hpriv r1 methM hnamed hmethM)
  simp only [Cond.before, Cond.holds, Cond.value, hc, hf, hnamed, hsel, hcls, hck]
  simp; exact hni
section Foreign
variable {rf : Nat → Nat → Nat → Option (Nat × Nat)} {own : String} {M : eI} {pc : Nat}
def t_dx1 (pc : Nat) : eTr := fun _ _ K lc st S bc bs => e_p1 st fun v r => e_p1 r fun u r => cond (e_c2 v) False (cond (e_c2 u) False (K (pc + 1) lc (v :: u :: v :: r) S bc bs))
theorem s_dx1 (d : decode (iB M) pc = .ok (.dup_x1, 1)) : e_Sd rf own M pc (t_dx1 pc) := by
  intro G mc ms p e R s m args below meth c Q S0 Qc Qx hG C hR hT K hK lc st S bc bs h H locs ls cells slots hW hS hl hv hle hbc hbs
  obtain ⟨v, r, rfl, h60⟩ := e_p1_of h
  obtain ⟨u, r, rfl, h61⟩ := e_p1_of h60
  have hc := e_cat (G := G) (S := S) v
  have hc2 := e_cat (G := G) (S := S) u
  cases hv2 : e_c2 v with
  | true => rw [hv2] at h61; exact h61.elim
  | false =>
    rw [hv2] at h61 hc
    cases hu2 : e_c2 u with
    | true => rw [hu2] at h61; exact h61.elim
    | false =>
      rw [hu2] at h61 hc2
      exact lv_dup_x1 C.1 C.2.1 d hc hc2 (hK _ _ _ _ _ _ h61 H locs ls cells slots hW hS hl (e_pv (e_pv (e_pv (e_pt (e_pt hv)) (e_ph hv)) (e_ph (e_pt hv))) (e_ph hv)) hle hbc hbs)
/-- an int of the pool, wide -/
theorem s_ldcw {i : Nat} {v : Int32} (d : decode (iB M) pc = .ok (.ldc_w i, 3)) (hw : Cond.constant own i v ∈ e_all) : e_Sd rf own M pc (t_push (.inl v) 3 pc) := by
  intro G mc ms p e R s m args below meth c Q S0 Qc Qx hG C hR hT K hK lc st S bc bs h H locs ls cells slots hW hS hl hv hle hbc hbs
  exact lv_ldcw C.1 C.2.1 C.2.2.2.1 (C.2.2.2.2.1 _ hw) d (hK _ _ _ _ _ _ h H locs ls cells slots hW hS hl (e_pv hv e_live.i) hle hbc hbs)
/-- a literal of the pool, wide -/
theorem s_ldcwS {i n : Nat} (d : decode (iB M) pc = .ok (.ldc_w n, 3)) (hi : i < 4) (ho : own = e_so i) (hn : n = e_si i) : e_Sd rf own M pc (t_push (aR 20 i) 3 pc) := by
  intro G mc ms p e R s m args below meth c Q S0 Qc Qx hG C hR hT K hK lc st S bc bs h H locs ls cells slots hW hS hl hv hle hbc hbs
  subst ho; subst hn
  obtain ⟨hx, hb, -, ho, -, ⟨-, -, -, -, h5, -⟩, -⟩ := C
  have hZ := h5 i hi
  intro T hT X
  obtain ⟨t, a1, b1⟩ := (hK _ _ _ _ _ _ h H locs ls cells slots hW hS hl (e_pv hv (e_live.o (fun q z => by cases z; exact Or.inr (Nat.le_refl 20)))) hle hbc hbs) T hT X
  exact ⟨t, X.ldcStringW hx ho hZ.1 hZ.2 (g := F0 m pc ls _) rfl (by rw [hb]; exact d) t a1, b1⟩
theorem e_St.digZ {G : eG} {U : State} {H : Heap} (h : e_St G U H) : va_Z "java/lang/Integer" "DigitOnes" "[B" (.ref (gF G 24 0)) (e_A G) U H := h.2.2.2.2.2.2.2.2.2.2.2.2.2.2.2.2.1
theorem e_St.digT {G : eG} {U : State} {H : Heap} (h : e_St G U H) : va_T .byte (gF G 24 0) 100 (fun j => .int (e_dg j)) (e_A G) U H := h.2.2.2.2.2.2.2.2.2.2.2.2.2.2.2.2.2.1
theorem e_St.fmt {G : eG} {U : State} {H : Heap} (h : e_St G U H) : va_Z "jdk/internal/util/Preconditions" "SIOOBE_FORMATTER" "Ljava/util/function/BiFunction;" .null (e_A G) U H ∨ va_Z "jdk/internal/util/Preconditions" "SIOOBE_FORMATTER" "Ljava/util/function/BiFunction;" (.ref (gF G 24 1)) (e_A G) U H := h.2.2.2.2.2.2.2.2.2.2.2.2.2.2.2.2.2.2.1
theorem e_St.ao {G : eG} {U : State} {H : Heap} (h : e_St G U H) : va_AO RX2 U ∧ va_AO RX1 U ∧ va_AO RX0 U := h.2.2.2.2.2.2.2.2.2.2.2.2.2.2.2.2.2.2.2
theorem e_St.cs {G : eG} {U : State} {H : Heap} (h : e_St G U H) : va_Z RJ0 "COMPACT_STRINGS" "Z" (.int 1) (e_A G) U H := h.2.2.2.2.2.2.1
theorem e_St.str {G : eG} {U : State} {H : Heap} (h : e_St G U H) : vk_S 4 e_sl e_sb (gF G 20) (gF G 21) (e_A G) U H := h.2.2.2.1
-- statics
theorem s_getCS {idx : Nat} (d : decode (iB M) pc = .ok (.getstatic idx, 3)) (hw : Cond.fieldLink own idx RJ0 "COMPACT_STRINGS" "Z" ∈ e_all) : e_Sd rf own M pc (t_push (.inl 1) 3 pc) := by
  intro G mc ms p e R s m args below meth c0 Q S0 Qc Qx hG C hR hT K hK lc st S bc bs h H locs ls cells slots hW hS hl hv hle hbc hbs
  exact va_gets C.1 C.2.1 C.2.2.2.2.2.1.cs hS C.2.2.2.1 (C.2.2.2.2.1 _ hw) (fun _ z => z) d (hK _ _ _ _ _ _ h H locs ls cells slots hW hS hl (e_pv hv e_live.i) hle hbc hbs)
theorem s_getDO {idx : Nat} (d : decode (iB M) pc = .ok (.getstatic idx, 3)) (hw : Cond.fieldLink own idx "java/lang/Integer" "DigitOnes" "[B" ∈ e_all) : e_Sd rf own M pc (t_push (aR 24 0) 3 pc) := by
  intro G mc ms p e R s m args below meth c0 Q S0 Qc Qx hG C hR hT K hK lc st S bc bs h H locs ls cells slots hW hS hl hv hle hbc hbs
  exact va_gets C.1 C.2.1 C.2.2.2.2.2.1.digZ hS C.2.2.2.1 (C.2.2.2.2.1 _ hw) (fun _ z => z) d (hK _ _ _ _ _ _ h H locs ls cells slots hW hS hl (e_pv hv (e_live.o (fun q z => by cases z; exact Or.inr (by decide)))) hle hbc hbs)
/-- a static that nobody asks about -/
def t_getF (pc : Nat) : eTr := fun _ _ K lc st S bc bs => ∀ o : Option (Nat × Nat), K (pc + 3) lc (aO o :: st) S bc bs
theorem s_getF {idx : Nat} (d : decode (iB M) pc = .ok (.getstatic idx, 3)) (hw : Cond.fieldLink own idx "jdk/internal/util/Preconditions" "SIOOBE_FORMATTER" "Ljava/util/function/BiFunction;" ∈ e_all) : e_Sd rf own M pc (t_getF pc) := by
  intro G mc ms p e R s m args below meth c0 Q S0 Qc Qx hG C hR hT K hK lc st S bc bs h H locs ls cells slots hW hS hl hv hle hbc hbs
  rcases C.2.2.2.2.2.1.fmt with z | z
  · exact va_gets C.1 C.2.1 z hS C.2.2.2.1 (C.2.2.2.2.1 _ hw) (fun _ z => z) d (hK _ _ _ _ _ _ (h none) H locs ls cells slots hW hS hl (e_pv hv (e_live.o (fun q z => by cases z))) hle hbc hbs)
  · exact va_gets C.1 C.2.1 z hS C.2.2.2.1 (C.2.2.2.2.1 _ hw) (fun _ z => z) d (hK _ _ _ _ _ _ (h (some (24, 1))) H locs ls cells slots hW hS hl (e_pv hv (e_live.o (fun q z => by cases z; exact Or.inr (by decide)))) hle hbc hbs)
-- literals: kind 20; their bytes: kind 21
def t_getSV (pc : Nat) : eTr := fun _ _ K lc st S bc bs => e_pQ st fun k i r => cond (Nat.beq k 20) (cond (Nat.blt i 4) (K (pc + 3) lc (aR 21 i :: r) S bc bs) False) False
def t_getSC (pc : Nat) : eTr := fun _ _ K lc st S bc bs => e_pQ st fun k i r => cond (Nat.beq k 20) (cond (Nat.blt i 4) (K (pc + 3) lc (.inl 0 :: r) S bc bs) False) False
def t_slen (pc : Nat) : eTr := fun _ _ K lc st S bc bs => e_pQ st fun k i r => cond (Nat.beq k 21) (cond (Nat.blt i 4) (K (pc + 1) lc (.inl (Int32.ofNat (e_sl.getD i 0)) :: r) S bc bs) False) False
def t_sbald (pc : Nat) : eTr := fun _ _ K lc st S bc bs => e_pI st fun x r => e_pQ r fun k i r => cond (Nat.beq k 21) (cond (Nat.blt i 4) (vp_in x (e_sl.getD i 0) ∧ K (pc + 1) lc (.inl ((e_sb.getD i []).getD x.toNatClampNeg 0) :: r) S bc bs) False) False
def t_dbald (pc : Nat) : eTr := fun _ _ K lc st S bc bs => e_pI st fun x r => e_pQ r fun k i r => cond (Nat.beq k 24) (cond (Nat.beq i 0) (vp_in x 100 ∧ K (pc + 1) lc (.inl (e_dg x.toNatClampNeg) :: r) S bc bs) False) False
theorem s_getSV {idx : Nat} (d : decode (iB M) pc = .ok (.getfield idx, 3)) (hw : Cond.fieldLink own idx RJ0 "value" "[B" ∈ e_all) : e_Sd rf own M pc (t_getSV pc) := by
  intro G mc ms p e R s m args below meth c0 Q S0 Qc Qx hG C hR hT K hK lc st S bc bs h H locs ls cells slots hW hS hl hv hle hbc hbs
  obtain ⟨k, i, r, rfl, h60⟩ := e_pQ_of h
  obtain ⟨hk, h61⟩ := e_cond h60
  obtain ⟨hi, h62⟩ := e_cond h61
  cases Nat.eq_of_beq_eq_true hk
  have hi : i < 4 := Nat.le_of_ble_eq_true hi
  exact vk_getf C.1 C.2.1 (C.2.2.2.2.2.1.str.1 i hi).2.2.1 hS C.2.2.2.1 (C.2.2.2.2.1 _ hw) (fun _ z => z) d (hK _ _ _ _ _ _ h62 H locs ls cells slots hW hS hl (e_pv (e_pt hv) (e_live.o (fun q z => by cases z; exact Or.inr (show 20 ≤ 21 by decide)))) hle hbc hbs)
theorem s_getSC {idx : Nat} (d : decode (iB M) pc = .ok (.getfield idx, 3)) (hw : Cond.fieldLink own idx RJ0 "coder" "B" ∈ e_all) : e_Sd rf own M pc (t_getSC pc) := by
  intro G mc ms p e R s m args below meth c0 Q S0 Qc Qx hG C hR hT K hK lc st S bc bs h H locs ls cells slots hW hS hl hv hle hbc hbs
  obtain ⟨k, i, r, rfl, h60⟩ := e_pQ_of h
  obtain ⟨hk, h61⟩ := e_cond h60
  obtain ⟨hi, h62⟩ := e_cond h61
  cases Nat.eq_of_beq_eq_true hk
  have hi : i < 4 := Nat.le_of_ble_eq_true hi
  exact vk_getf C.1 C.2.1 (C.2.2.2.2.2.1.str.1 i hi).2.1 hS C.2.2.2.1 (C.2.2.2.2.1 _ hw) (fun _ z => z) d (hK _ _ _ _ _ _ h62 H locs ls cells slots hW hS hl (e_pv (e_pt hv) e_live.i) hle hbc hbs)
theorem s_slen (d : decode (iB M) pc = .ok (.arraylength, 1)) : e_Sd rf own M pc (t_slen pc) := by
  intro G mc ms p e R s m args below meth c0 Q S0 Qc Qx hG C hR hT K hK lc st S bc bs h H locs ls cells slots hW hS hl hv hle hbc hbs
  obtain ⟨k, i, r, rfl, h60⟩ := e_pQ_of h
  obtain ⟨hk, h61⟩ := e_cond h60
  obtain ⟨hi, h62⟩ := e_cond h61
  cases Nat.eq_of_beq_eq_true hk
  have hi : i < 4 := Nat.le_of_ble_eq_true hi
  exact va_tlen C.1 C.2.1 (C.2.2.2.2.2.1.str.1 i hi).2.2.2 hS rfl d (hK _ _ _ _ _ _ h62 H locs ls cells slots hW hS hl (e_pv (e_pt hv) e_live.i) hle hbc hbs)
theorem s_sbald (d : decode (iB M) pc = .ok (.baload, 1)) : e_Sd rf own M pc (t_sbald pc) := by
  intro G mc ms p e R s m args below meth c0 Q S0 Qc Qx hG C hR hT K hK lc st S bc bs h H locs ls cells slots hW hS hl hv hle hbc hbs
  obtain ⟨x, r, rfl, h60⟩ := e_pI_of h
  obtain ⟨k, i, r, rfl, h61⟩ := e_pQ_of h60
  obtain ⟨hk, h62⟩ := e_cond h61
  obtain ⟨hi, h63⟩ := e_cond h62
  obtain ⟨hin, h64⟩ := h63
  cases Nat.eq_of_beq_eq_true hk
  have hi : i < 4 := Nat.le_of_ble_eq_true hi
  exact va_tb C.1 C.2.1 (C.2.2.2.2.2.1.str.1 i hi).2.2.2 hS hin rfl d (hK _ _ _ _ _ _ h64 H locs ls cells slots hW hS hl (e_pv (e_pt (e_pt hv)) e_live.i) hle hbc hbs)
theorem s_dbald (d : decode (iB M) pc = .ok (.baload, 1)) : e_Sd rf own M pc (t_dbald pc) := by
  intro G mc ms p e R s m args below meth c0 Q S0 Qc Qx hG C hR hT K hK lc st S bc bs h H locs ls cells slots hW hS hl hv hle hbc hbs
  obtain ⟨x, r, rfl, h60⟩ := e_pI_of h
  obtain ⟨k, i, r, rfl, h61⟩ := e_pQ_of h60
  obtain ⟨hk, h62⟩ := e_cond h61
  obtain ⟨hi, h63⟩ := e_cond h62
  obtain ⟨hin, h64⟩ := h63
  cases Nat.eq_of_beq_eq_true hk
  cases Nat.eq_of_beq_eq_true hi
  exact va_tb C.1 C.2.1 C.2.2.2.2.2.1.digT hS hin rfl d (hK _ _ _ _ _ _ h64 H locs ls cells slots hW hS hl (e_pv (e_pt (e_pt hv)) e_live.i) hle hbc hbs)
/-- a literal's bytes into a row of bytes -/
def e_cpL (S : eM) (i0 k i sp dp n : Nat) : eM := (fun a b => if a = k ∧ b = i then va_cpy (fun j => (e_sb.getD i0 []).getD j 0) (mI S k i) sp dp n else mI S a b, S.2)
theorem e_cpL_set {G : eG} {S : eM} {i0 k i sp dp n p t : Nat} (hk : e_kd k = 100 + t) (ht : e_fk (e_a t) = 0) (hp : (mP S)[p]? = some (k, i)) (hn : (mP S).Nodup) : (e_w G S).set p (e_ad G S (k, i), .inl (gA G t, e_ln k i, .inl (va_cpy (fun j => (e_sb.getD i0 []).getD j 0) (mI S k i) sp dp n))) = e_w G (e_cpL S i0 k i sp dp n) := by
  refine e_set hp hn rfl rfl (fun q2 h => e_cell_of (S := S) (S2 := e_cpL S i0 k i sp dp n) rfl ?_ rfl rfl) ?_
  · show (if q2.1 = k ∧ q2.2 = i then _ else mI S q2.1 q2.2) = _
    rw [if_neg]
    rintro ⟨h1, h2⟩
    exact h (by rw [← h1, ← h2])
  · rw [e_cell_i hk ht]
    show Sum.inl (gA G t, e_ln k i, Sum.inl (if k = k ∧ i = i then va_cpy (fun j => (e_sb.getD i0 []).getD j 0) (mI S k i) sp dp n else mI S k i)) = _
    rw [if_pos ⟨rfl, rfl⟩]
def t_acpS (pc : Nat) : eTr := fun _ _ K lc st S bc bs => e_pI st fun n r => e_pI r fun dp r => e_pQ r fun k i r => e_pI r fun sp r => e_pQ r fun k0 i0 r => cond (Nat.beq k 11) (cond (Nat.beq k0 21) (cond (Nat.blt i0 4) (cond (Nat.ble (e_sz r) 8)
  ((¬ sp < 0 ∧ ¬ dp < 0 ∧ ¬ n < 0 ∧ sp.toNatClampNeg + n.toNatClampNeg ≤ e_sl.getD i0 0 ∧ dp.toNatClampNeg + n.toNatClampNeg ≤ e_ln 11 i) ∧ K (pc + 3) lc r (e_cpL S i0 k i sp.toNatClampNeg dp.toNatClampNeg n.toNatClampNeg) bc bs) False) False) False) False
theorem e_sb_fit : ∀ i, i < 4 → ∀ j, fits .byte (.int ((e_sb.getD i []).getD j 0)) = true := by
  have h : ∀ i, i < 4 → ((e_sb.getD i []).all (fun x => fits .byte (.int x))) = true := by decide +kernel
  intro i hi j
  rcases Nat.lt_or_ge j (e_sb.getD i []).length with z | z
  · rw [List.getD_eq_getElem?_getD, List.getElem?_eq_getElem z]
    exact List.all_eq_true.mp (h i hi) _ (List.getElem_mem z)
  · rw [List.getD_eq_getElem?_getD, List.getElem?_eq_none z]
    rfl
theorem s_acpS {idx : Nat} (d : decode (iB M) pc = .ok (.invokestatic idx, 3)) (hl0 : Cond.methodLink own idx arraycopyName ∈ e_all) (hi : Cond.static arraycopyName ∈ e_all) (hnat : Cond.native arraycopyName ∈ e_all) (hn : Cond.initialized "java/lang/System" ∈ e_all) (hD : 1 ≤ iD M) : e_Sd rf own M pc (t_acpS pc) := by
  intro G mc ms p e R s m args below meth c0 Q S0 Qc Qx hG C hR hT K hK lc st S bc bs h H locs ls cells slots hW hS hl hv hle hbc hbs
  obtain ⟨n, r, rfl, h60⟩ := e_pI_of h
  obtain ⟨dp, r, rfl, h61⟩ := e_pI_of h60
  obtain ⟨k, i, r, rfl, h62⟩ := e_pQ_of h61
  obtain ⟨sp, r, rfl, h63⟩ := e_pI_of h62
  obtain ⟨k0, i0, r, rfl, h64⟩ := e_pQ_of h63
  obtain ⟨hk, h65⟩ := e_cond h64
  obtain ⟨hk0, h66⟩ := e_cond h65
  obtain ⟨hi0, h67⟩ := e_cond h66
  obtain ⟨h8, h68⟩ := e_cond h67
  obtain ⟨hvc, h69⟩ := h68
  obtain ⟨v1, v2, v3, v4, v5⟩ := hvc
  cases Nat.eq_of_beq_eq_true hk
  cases Nat.eq_of_beq_eq_true hk0
  have hi0 : i0 < 4 := Nat.le_of_ble_eq_true hi0
  obtain ⟨hx, hb, hml, ho, hts, hSt, hgb, hdf, hdl, hRc, hRs, -⟩ := C
  have hsz : ((r.map (e_cv G S)).map fun v => v.category).sum ≤ 8 := by rw [e_sz_eq]; exact Nat.le_of_ble_eq_true h8
  obtain ⟨pz, hp, hpz⟩ := e_at (G := G) (e_in (e_ph (e_pt (e_pt hv))) (by decide))
  rw [e_cell_i (t := 1) rfl rfl] at hpz
  refine vk_copyt hx hb (hml.trans hl.1.symm) ho (hts _ hl0) (hts _ hnat) (hts _ hi) (hts _ hn) hSt.1 hW.1 hW.2.1 hS (hSt.str.1 i0 hi0).2.2.2 pz 1 hpz rfl v1 v2 v3 v4 v5 (fun j _ => e_sb_fit i0 hi0 _) (by omega) (by have hw : nativeFrameWords "java/lang/System" "arraycopy" 5 ≤ 45 := (by decide +kernel); omega) d (fun H1 locs1 hP1 hD1 hS1 => ?_)
  have hP1 : va_P (gD G) e_C (e_w G (e_cpL S i0 11 i sp.toNatClampNeg dp.toNatClampNeg n.toNatClampNeg)) H1 := by rw [← e_cpL_set (t := 1) rfl rfl hp hW.2.2.2.1]; exact hP1
  have hD1 : va_D (e_A G) (e_w G (e_cpL S i0 11 i sp.toNatClampNeg dp.toNatClampNeg n.toNatClampNeg)) := by rw [← e_cpL_set (t := 1) rfl rfl hp hW.2.2.2.1]; exact hD1
  have hz := hK _ _ _ _ _ _ h69 H1 locs1 ls cells slots ⟨hP1, hD1, hW.2.2⟩ hS1 (e_lv_same rfl hl) (e_hv rfl (e_pt (e_pt (e_pt (e_pt (e_pt hv)))))) (e_le_same rfl rfl hle) hbc hbs
  rw [e_cv_same (show mA (e_cpL S i0 11 i sp.toNatClampNeg dp.toNatClampNeg n.toNatClampNeg) = mA S from rfl)] at hz
  exact hz
-- things newly made
def e_nw (S : eM) (k i a : Nat) : eM := (fun x y => if x = k ∧ y = i then fun _ => 0 else mI S x y, fun x y => if x = k ∧ y = i then fun _ => none else mR S x y, fun x y => if x = k ∧ y = i then fun _ => 0 else mL S x y, mP S ++ [(k, i)], fun x y => if x = k ∧ y = i then a else mA S x y)
theorem e_nw_ne {k i : Nat} {q : Nat × Nat} (h : q ≠ (k, i)) : ¬ (q.1 = k ∧ q.2 = i) := fun z => h (by rw [← z.1, ← z.2])
theorem e_nw_ad {G : eG} {S : eM} {k i a : Nat} {q : Nat × Nat} (h : q ≠ (k, i)) : e_ad G (e_nw S k i a) q = e_ad G S q := by
  unfold e_ad
  split
  · show (if q.1 = k ∧ q.2 = i then a else mA S q.1 q.2) = _
    rw [if_neg (e_nw_ne h)]
  · rfl
theorem e_nw_cell {G : eG} {S : eM} {k i a : Nat} (href : ∀ k2 i2 j q, mR S k2 i2 j = some q → q ≠ (k, i)) {q : Nat × Nat} (hq : q ≠ (k, i)) : e_cell G (e_nw S k i a) q = e_cell G S q := by
  have hi : mI (e_nw S k i a) q.1 q.2 = mI S q.1 q.2 := if_neg (e_nw_ne hq)
  have hr : mR (e_nw S k i a) q.1 q.2 = mR S q.1 q.2 := if_neg (e_nw_ne hq)
  have hl : mL (e_nw S k i a) q.1 q.2 = mL S q.1 q.2 := if_neg (e_nw_ne hq)
  have ho : ∀ j, (mR S q.1 q.2 j).map (e_ad G (e_nw S k i a)) = (mR S q.1 q.2 j).map (e_ad G S) := fun j => by
    cases hz : mR S q.1 q.2 j with
    | none => rfl
    | some q2 => show some _ = some _; rw [e_nw_ad (href _ _ _ _ hz)]
  have hf : ∀ c, e_fv G (e_nw S k i a) q.1 q.2 c = e_fv G S q.1 q.2 c := fun c => funext fun j => by unfold e_fv; rw [hi, hr, hl, ho]
  have h3 : (fun j => (mR S q.1 q.2 j).map (e_ad G (e_nw S k i a))) = fun j => (mR S q.1 q.2 j).map (e_ad G S) := funext ho
  unfold e_cell
  rw [hf]
  unfold e_arr
  rw [hi, hr, hl, h3]
theorem e_nw_ref {rf : Nat → Nat → Nat → Option (Nat × Nat)} {S : eM} {k i : Nat} (hok : e_ok rf S) (hk : k < 20) (hf : (k, i) ∉ mP S) : ∀ k2 i2 j q, mR S k2 i2 j = some q → q ≠ (k, i) := by
  rintro k2 i2 j q h rfl
  rcases hok.2.2.1 _ _ _ _ h with z | z
  · exact hf z
  · exact absurd z (by show ¬ 20 ≤ k; omega)
theorem e_nw_w {G : eG} {S : eM} {k i a : Nat} (hok : e_ok (gr G) S) (hk : k < 20) (hf : (k, i) ∉ mP S) : e_w G (e_nw S k i a) = e_w G S ++ [(a, e_cell G (e_nw S k i a) (k, i))] := by
  have h1 : e_ad G (e_nw S k i a) (k, i) = a := by
    unfold e_ad
    rw [if_pos hk]
    show (if k = k ∧ i = i then a else _) = a
    rw [if_pos ⟨rfl, rfl⟩]
  show (mP S ++ [(k, i)]).map _ = (mP S).map _ ++ _
  rw [List.map_append]
  congr 1
  · refine List.map_congr_left (fun q hq => ?_)
    have hne : q ≠ (k, i) := fun z => hf (z ▸ hq)
    rw [e_nw_ad hne, e_nw_cell (e_nw_ref hok hk hf) hne]
  · show [(e_ad G (e_nw S k i a) (k, i), _)] = _
    rw [h1]
theorem e_nw_ok {rf : Nat → Nat → Nat → Option (Nat × Nat)} {S : eM} {k i a : Nat} (hok : e_ok rf S) (hk : k < 20) (hf : (k, i) ∉ mP S) (hrf : ∀ j, rf k i j = none) : e_ok rf (e_nw S k i a) := by
  obtain ⟨h1, h2, h3, h4⟩ := hok
  refine ⟨fun q hq => ?_, ?_, fun k2 i2 j q hq => ?_, fun k2 i2 j q hm hj hr => ?_⟩
  · rcases List.mem_append.mp hq with z | z
    · exact h1 q z
    · rw [List.mem_singleton.mp z]; exact hk
  · refine List.nodup_append.mpr ⟨h2, List.nodup_cons.mpr ⟨List.not_mem_nil, List.nodup_nil⟩, fun x hx y hy => ?_⟩
    rw [List.mem_singleton.mp hy]
    exact fun z => hf (z ▸ hx)
  · have hq : (if k2 = k ∧ i2 = i then fun _ => none else mR S k2 i2) j = some q := hq
    by_cases hc : k2 = k ∧ i2 = i
    · rw [if_pos hc] at hq; cases hq
    · rw [if_neg hc] at hq
      exact (h3 _ _ _ _ hq).imp (fun z => List.mem_append_left _ z) id
  · by_cases hc : k2 = k ∧ i2 = i
    · rw [hc.1, hc.2, hrf] at hr; cases hr
    · show (if k2 = k ∧ i2 = i then fun _ => none else mR S k2 i2) j = some q
      rw [if_neg hc]
      rcases List.mem_append.mp hm with z | z
      · exact h4 _ _ _ _ z hj hr
      · exact absurd ⟨congrArg Prod.fst (List.mem_singleton.mp z), congrArg Prod.snd (List.mem_singleton.mp z)⟩ hc
theorem e_nw_le {S : eM} {k i a : Nat} (hf : (k, i) ∉ mP S) : e_le S (e_nw S k i a) := fun q hq =>
  ⟨List.mem_append_left _ hq, if_neg (e_nw_ne (fun z => hf (z ▸ hq)))⟩
theorem e_nw_cv {G : eG} {S : eM} {k i a : Nat} (hk : k < 20) : e_cv G (e_nw S k i a) (aR k i) = .ref a := by
  show Value.ref (e_ad G (e_nw S k i a) (k, i)) = _
  unfold e_ad
  rw [if_pos hk]
  show Value.ref (if k = k ∧ i = i then a else _) = _
  rw [if_pos ⟨rfl, rfl⟩]
theorem e_lv_le {G : eG} {S S2 : eM} {ls : Array Slot} {nL : Nat} {lc : List (Option eV)} (hle : e_le S S2) (hv : ∀ w, some w ∈ lc → e_live S w) (h : e_lv G S ls nL lc) : e_lv G S2 ls nL lc := ⟨h.1, h.2.1, fun j v hj => by rw [hle.cv (hv v (List.mem_of_getElem? hj))]; exact h.2.2 j v hj⟩
/-- behind a making: the world with the new thing -/
theorem e_nw_go {G : eG} {M : eI} {mc ms : Nat} {p : Program} {e : Env} {R : Room} {s : State} {m : MethodId} {args : Array Value} {below : List Frame} {meth : Method} {c : Code} {Q : State → Prop} {S0 S : eM} {K : eK} (hK : ∀ pc lc st S bc bs, K pc lc st S bc bs → e_WM G M mc ms p e R s m args below meth c Q S0 pc lc st S bc bs)
    {pc k i a nc : Nat} {lc : List (Option eV)} {r : List eV} {bc bs cells slots : Nat} {H1 : Heap} {locs : List Loc} {ls : Array Slot} {ce : va_E} (hk : k < 20) (hf : (k, i) ∉ mP S) (hrf : ∀ j, gr G k i j = none) (hok : e_ok (gr G) S) (h : K pc lc (aR k i :: r) (e_nw S k i a) (bc - 1) (bs - nc)) (h1 : 1 ≤ bc) (h2 : nc ≤ bs)
    (hce : e_cell G (e_nw S k i a) (k, i) = ce) (hP1 : va_P (gD G) e_C (e_w G S ++ [(a, ce)]) H1) (hD1 : va_D (e_A G) (e_w G S ++ [(a, ce)])) (hS1 : va_S (e_A G) s.heap H1 locs) (hl : e_lv G S ls (iL M) lc) (hv : (∀ w, some w ∈ lc → e_live S w) ∧ ∀ v ∈ r, e_live S v) (hle : e_le S0 S) (hbc : cells + bc = mc) (hbs : slots + bs = ms) :
    W p (gl G) e R s m args below meth c H1 locs (cells + 1) (slots + nc) Q (F0 m pc ls (.ref a :: r.map (e_cv G S))) := by
  have hw := e_nw_w (a := a) hok hk hf
  rw [hce] at hw
  have hle2 := e_nw_le (a := a) hf
  have hz := hK _ _ _ _ _ _ h H1 locs ls (cells + 1) (slots + nc) ⟨by rw [hw]; exact hP1, by rw [hw]; exact hD1, e_nw_ok hok hk hf hrf⟩ hS1 (e_lv_le hle2 hv.1 hl) ⟨fun w hw2 => hle2.live (hv.1 w hw2), fun v hv2 => ?_⟩ (hle.trans hle2) (by omega) (by omega)
  · rw [List.map_cons, e_nw_cv hk, hle2.cvs hv.2] at hz
    exact hz
  · rcases List.mem_cons.mp hv2 with rfl | hv2
    · exact fun q hq => by cases hq; exact Or.inl (List.mem_append_right _ (List.mem_singleton.mpr rfl))
    · exact hle2.live (hv.2 v hv2)
/-- a row of ints, bytes or longs; its number is anybody's choice -/
def t_newA (t pc : Nat) : eTr := fun _ _ K lc st S bc bs => e_pI st fun n r => ∃ k i, (¬ n < 0 ∧ n.toNatClampNeg ≤ 65536 ∧ e_kd k = 100 + t ∧ k < 20 ∧ e_ln k i = n.toNatClampNeg ∧ (k, i) ∉ mP S ∧ 1 ≤ bc ∧ n.toNatClampNeg ≤ bs) ∧ ∀ a, K (pc + 2) lc (aR k i :: r) (e_nw S k i a) (bc - 1) (bs - n.toNatClampNeg)
theorem s_newA {t : Nat} {at0 : ArrayType} (d : decode (iB M) pc = .ok (.newarray at0, 2)) (ht : t < 3) (hty : newarray.typeOf at0 = e_a t) (hw : Cond.arrayClass (e_a t) ∈ e_all) (hrf : ∀ k i j, e_kd k = 100 + t → rf k i j = none) : e_Sd rf own M pc (t_newA t pc) := by
  intro G mc ms p e R s m args below meth c0 Q S0 Qc Qx hG C hR hT K hK lc st S bc bs h H locs ls cells slots hW hS hl hv hle hbc hbs
  obtain ⟨n, r, rfl, k, i, ⟨h1, h2, h3, h4, h5, h6, h7, h8⟩, h60⟩ := e_pI_of h
  obtain ⟨hx, hb, hml, ho, hts, hSt, hgb, hdf, hdl, hRc, hRs, -⟩ := id C
  have hcb : componentBytes (e_a t) ≤ 8 := by rcases (show t = 0 ∨ t = 1 ∨ t = 2 by omega) with rfl | rfl | rfl <;> decide
  have hmul : n.toNatClampNeg * componentBytes (e_a t) ≤ 536870912 := Nat.le_trans (Nat.mul_le_mul h2 hcb) (by decide)
  have ha : ∀ cA : ClassId, vp_cell cA (n.toNatClampNeg, (match e_fk (e_a t) with | 0 => .inl (fun _ => 0) | 1 => .inr (.inr (.inr (.inr (fun _ => none)))) | _ => .inr (.inl (fun _ => 0)))) = arrV cA n.toNatClampNeg (fun _ => defaultValue (e_a t)) := by
    intro cA
    rcases (show t = 0 ∨ t = 1 ∨ t = 2 by omega) with rfl | rfl | rfl <;> rfl
  refine va_newa hx hb (by rw [hty]; exact hts _ hw) hty hSt.1 hW.1 hW.2.1 hS (fun q hq => Nat.le_trans hgb hq) ha h1 rfl hmul (by omega) (by omega) d (fun q cA H1 hK1 hP1 hD1 hS1 => ?_)
  have hcA : cA = gA G t := by
    have e1 : va_RA s cA (e_a t) := (hK1.2 6 _ rfl).2
    have e2 : va_RA s (gA G t) (e_a t) := (hSt.1.2 t _ (e_TY_at (by omega))).2
    rcases (show t = 0 ∨ t = 1 ∨ t = 2 by omega) with rfl | rfl | rfl <;> exact Option.some.inj ((show s.vm.findClass _ = some cA from e1).symm.trans e2)
  subst hcA
  refine e_nw_go hK h4 h6 (fun j => by rw [hG]; exact hrf k i j h3) hW.2.2 (h60 q) h7 h8 ?_ hP1 hD1 hS1 hl (e_pt hv) hle hbc hbs
  rw [e_cell_a h3]
  unfold e_arr
  rw [h5]
  show Sum.inl (gA G t, n.toNatClampNeg, match e_fk (e_a t) with | 0 => Sum.inl (if k = k ∧ i = i then fun _ => 0 else mI S k i) | 1 => Sum.inr (Sum.inr (Sum.inr (Sum.inr (fun j => ((if k = k ∧ i = i then fun _ => none else mR S k i) j).map _)))) | _ => Sum.inr (Sum.inl (if k = k ∧ i = i then fun _ => 0 else mL S k i))) = _
  rw [if_pos ⟨rfl, rfl⟩, if_pos ⟨rfl, rfl⟩, if_pos ⟨rfl, rfl⟩]
  rfl
/-- a row of references -/
def t_newQ (t pc : Nat) : eTr := fun _ _ K lc st S bc bs => e_pI st fun n r => ∃ k i, (¬ n < 0 ∧ n.toNatClampNeg ≤ 65536 ∧ e_kd k = 100 + t ∧ k < 20 ∧ e_ln k i = n.toNatClampNeg ∧ (k, i) ∉ mP S ∧ 1 ≤ bc ∧ n.toNatClampNeg ≤ bs) ∧ ∀ a, K (pc + 3) lc (aR k i :: r) (e_nw S k i a) (bc - 1) (bs - n.toNatClampNeg)
theorem s_newQ {t idx : Nat} {Cn : String} (d : decode (iB M) pc = .ok (.anewarray idx, 3)) (ht : 3 ≤ t ∧ t < 6) (hty : e_a t = .object Cn) (hlk : Cond.classLink own idx Cn ∈ e_all) (hov : Cn = RX2 ∨ Cn = RX1 ∨ Cn = RX0) (hrf : ∀ k i j, rf k i j = none) : e_Sd rf own M pc (t_newQ t pc) := by
  intro G mc ms p e R s m args below meth c0 Q S0 Qc Qx hG C hR hT K hK lc st S bc bs h H locs ls cells slots hW hS hl hv hle hbc hbs
  obtain ⟨n, r, rfl, k, i, ⟨h1, h2, h3, h4, h5, h6, h7, h8⟩, h60⟩ := e_pI_of h
  obtain ⟨hx, hb, hml, ho, hts, hSt, hgb, hdf, hdl, hRc, hRs, -⟩ := id C
  refine va_newq hx hb ho (hts _ hlk) (hov.elim (fun z => z ▸ hSt.ao.1) (fun z => z.elim (fun z => z ▸ hSt.ao.2.1) (fun z => z ▸ hSt.ao.2.2))) hSt.1 hW.1 hW.2.1 hS (fun q hq => Nat.le_trans hgb hq) h1 rfl (by omega) (by omega) (by omega) d (fun q cA H1 hK1 hP1 hD1 hS1 => ?_)
  have hcA : cA = gA G t := by
    have e1 : va_RA s cA (.object Cn) := (hK1.2 6 _ rfl).2
    have e2 : va_RA s (gA G t) (.object Cn) := by rw [← hty]; exact (hSt.1.2 t _ (e_TY_at ht.2)).2
    obtain ⟨-, -, -, -, -, y1⟩ := e1
    obtain ⟨-, -, -, -, -, y2⟩ := e2
    exact Option.some.inj (y1.symm.trans y2)
  subst hcA
  refine e_nw_go hK h4 h6 (fun j => by rw [hG]; exact hrf k i j) hW.2.2 (h60 q) h7 h8 ?_ hP1 hD1 hS1 hl (e_pt hv) hle hbc hbs
  rw [e_cell_a h3]
  unfold e_arr
  rw [h5, hty]
  show Sum.inl (gA G t, n.toNatClampNeg, Sum.inr (Sum.inr (Sum.inr (Sum.inr (fun j => ((if k = k ∧ i = i then fun _ => none else mR S k i) j).map _))))) = _
  rw [if_pos ⟨rfl, rfl⟩]
  rfl
/-- an object -/
def t_new (c pc : Nat) : eTr := fun _ _ K lc st S bc bs => ∃ k i, (e_kd k = c ∧ k < 20 ∧ (k, i) ∉ mP S ∧ 1 ≤ bc ∧ e_N c ≤ bs) ∧ ∀ a, K (pc + 3) lc (aR k i :: st) (e_nw S k i a) (bc - 1) (bs - e_N c)
theorem e_dflt {c : Nat} (hc : c < 7) : ∀ j, j < e_N c → defaultValue (e_y c j) = match e_fk (e_y c j) with | 0 => .int 0 | 1 => .null | _ => .long 0 := by
  rcases (show c = 0 ∨ c = 1 ∨ c = 2 ∨ c = 3 ∨ c = 4 ∨ c = 5 ∨ c = 6 by omega) with rfl | rfl | rfl | rfl | rfl | rfl | rfl <;> decide +kernel
theorem s_new {c idx : Nat} (d : decode (iB M) pc = .ok (.new idx, 3)) (hc : c < 7) (hlk : Cond.classLink own idx (e_R c) ∈ e_all) (hin : Cond.instantiable (e_R c) (e_N c) ∈ e_all) (hni : Cond.initialized (e_R c) ∈ e_all) (hrf : ∀ k i j, rf k i j = none) : e_Sd rf own M pc (t_new c pc) := by
  intro G mc ms p e R s m args below meth c0 Q S0 Qc Qx hG C hR hT K hK lc st S bc bs h H locs ls cells slots hW hS hl hv hle hbc hbs
  obtain ⟨k, i, ⟨h1, h2, h3, h4, h5⟩, h60⟩ := h
  obtain ⟨hx, hb, hml, ho, hts, hSt, hgb, hdf, hdl, hRc, hRs, -⟩ := id C
  refine va_new hx hb hts (e_lay hc) (e_y c) (e_y_ok hc) ho (hts _ hlk) (hts _ hin) (hts _ hni) hSt.1 hW.1 hW.2.1 hS (fun q hq => Nat.le_trans hgb hq) (e_C_at hc) (fs := (List.range (e_N c)).map (fun j => match e_fk (e_y c j) with | 0 => .int 0 | 1 => .null | _ => .long 0)) (fun j hj => ?_) (by omega) (by omega) d (fun q H1 hP1 hD1 hS1 => ?_)
  · unfold vp_V
    rw [e_dflt hc j hj, List.getD_eq_getElem?_getD, List.getElem?_map, List.getElem?_range hj]
    rfl
  · refine e_nw_go hK h2 h3 (fun j => by rw [hG]; exact hrf k i j) hW.2.2 (h60 q) h4 h5 ?_ hP1 hD1 hS1 hl hv hle hbc hbs
    rw [e_cell_o h1 hc]
    congr 2
    refine List.map_congr_left (fun j _ => ?_)
    unfold e_fv
    show (match e_fk (e_y c j) with | 0 => Value.int ((if k = k ∧ i = i then fun _ => 0 else mI S k i) j) | 1 => va_rf (((if k = k ∧ i = i then fun _ => none else mR S k i) j).map _) | _ => Value.long ((if k = k ∧ i = i then fun _ => 0 else mL S k i) j)) = _
    rw [if_pos ⟨rfl, rfl⟩, if_pos ⟨rfl, rfl⟩, if_pos ⟨rfl, rfl⟩]
    rfl
-- calls of inherited methods and of a superclass
theorem s_callU {n idx c mc2 ms2 : Nat} {M2 : eI} {w : eW} (hM2 : e_OK rf M2 mc2 ms2 w) (d : decode (iB M) pc = .ok (.invokevirtual idx, 3)) (hC : e_Cl M2 n) (hc : c < 7) (hl : Cond.methodLink own idx (iN M2) ∈ e_all) (hi : Cond.instanceMethod (iN M2) ∈ e_all) (hsm : Cond.sameMethod (iN M2).cls (iN M2).cls (iN M2).name (iN M2).desc ∈ e_all) (hs : Cond.selects (e_R c) (iN M2) (iN M2) ∈ e_all) (hd : iD M2 + 1 ≤ iD M)
    (hrec : ∀ As S post, w As S post → ∃ k i r, As = aR k i :: r ∧ e_kd k = c) : e_Sd rf own M pc (t_call (n + 1) mc2 ms2 w pc) := by
  intro G mc ms p e R s m args below meth c0 Q S0 Qc Qx hG C hR hT K hK lc st S bc bs h H locs ls cells slots hW hS hl2 hv hle hbc hbs
  obtain ⟨As, r, h3, rfl, h4⟩ := e_pop_of h
  obtain ⟨h5, h6, h7, h8⟩ := e_cond h4
  rw [List.append_nil] at h8
  obtain ⟨k, i, A2, rfl, hk⟩ := hrec _ _ _ h8
  have hlive : ∀ v ∈ aR k i :: A2, e_live S v := fun v hv2 => hv.2 v (List.mem_append_left _ (List.mem_reverse.mpr hv2))
  have hkl : k < 20 := by
    rcases Nat.lt_or_ge k 15 with z | z
    · omega
    · rw [e_kd_big z] at hk; omega
  obtain ⟨pz, hp, hpz⟩ := e_at (G := G) (e_in (hlive _ List.mem_cons_self) hkl)
  rw [e_cell_o hk hc] at hpz
  obtain ⟨g1, g2, g3, g4, g5⟩ := hC
  obtain ⟨hx, hb, hml, ho, hts, hSt, hgb, hdf, hdl, hRc, hRs, -⟩ := id C
  have hrv : ∃ cell : Cell, H[e_ad G S (k, i)]? = some cell ∧ cell.vm.isStatics = false ∧ s.vm.findClass (e_R c) = some cell.cls := va_recv hSt.1 hW.1 (e_C_at hc) hpz
  have hM := hM2 G ⟨hG, C.2.2.2.2.2.2.2.2.2.2.2.2⟩ (aR k i :: A2) S _ h8 hlive hW.2.2
  have hrun := vx_runU (x := iN M2) (owner := (iN M2).cls) (bytes := iB M2) (maxL := iL M2) (ret := iT M2) (n := n) (own := own) (C := e_R c) (index := idx) (As := A2.map (e_cv G S)) (rest := r.map (e_cv G S)) (b := e_ad G S (k, i)) (g := F0 m pc ls (((aR k i :: A2).reverse ++ r).map (e_cv G S))) (cells := cells) (slots := slots) (locs := locs) (H := H) (below := below) (meth := meth) (e := e)
    ⟨hx, hb, hml, ho, hts⟩ hM
    ⟨⟨rfl, rfl, by show iD M2 + 1 ≤ R.frames; omega, by show 8 + (iL M2 + 11) + 64 * iD M2 ≤ R.locals; omega, e_ws_at g1 hts, List.mem_cons_self⟩, hts _ g1, hts _ g2, g3, fun sig hsig => by rw [hsig] at g4; exact (Option.some.inj g4).symm, hts _ hl, hts _ hsm, va_Decl.of (hts _ hi) (hts _ g1), hts _ hs, hts _ hi⟩
    ⟨e_blind, hrv, e_pre hSt hgb hW hS⟩ rfl (by rw [List.length_map]; simpa using h3) hl2.1 (by simp [e_cv, va_rf, List.map_append, List.map_reverse]) (lv_room (by rw [e_sz_eq]; exact Nat.le_of_ble_eq_true h5)) d ⟨by omega, by omega⟩
  refine e_after hrun hS (fun rv S2 H1 locs1 hq hlv hle2 hW2 hS2 => ?_)
  have hz := hK _ _ _ _ _ _ hq H1 locs1 ls (cells + mc2) (slots + ms2) hW2 hS2 ⟨hl2.1, hl2.2.1, fun j v hj => by rw [hle2.cv (hv.1 v (List.mem_of_getElem? hj))]; exact hl2.2.2 j v hj⟩ ⟨fun v hv2 => hle2.live (hv.1 v hv2), fun v hv2 => ?_⟩ (hle.trans hle2) (by omega) (by omega)
  · rw [e_push_eq, hle2.cvs (fun v hv2 => hv.2 v (List.mem_append_right _ hv2))] at hz
    exact hz
  · cases rv with
    | none => exact hle2.live (hv.2 v (List.mem_append_right _ hv2))
    | some u =>
      rcases List.mem_cons.mp hv2 with rfl | hv2
      · exact hlv _ rfl
      · exact hle2.live (hv.2 v (List.mem_append_right _ hv2))
theorem s_callSU {n idx c mc2 ms2 : Nat} {M2 : eI} {w : eW} (hM2 : e_OK rf M2 mc2 ms2 w) (d : decode (iB M) pc = .ok (.invokespecial idx, 3)) (hC : e_Cl M2 n) (hc : c < 7) (hl : Cond.methodLink own idx (iN M2) ∈ e_all) (hi : Cond.instanceMethod (iN M2) ∈ e_all) (hsm : Cond.sameMethod (iN M2).cls (iN M2).cls (iN M2).name (iN M2).desc ∈ e_all) (hsu : Cond.superclass own (iN M2).cls ∈ e_all) (hni : (iN M2).name ≠ "<init>") (hd : iD M2 + 1 ≤ iD M)
    (hrec : ∀ As S post, w As S post → ∃ k i r, As = aR k i :: r ∧ e_kd k = c) : e_Sd rf own M pc (t_call (n + 1) mc2 ms2 w pc) := by
  intro G mc ms p e R s m args below meth c0 Q S0 Qc Qx hG C hR hT K hK lc st S bc bs h H locs ls cells slots hW hS hl2 hv hle hbc hbs
  obtain ⟨As, r, h3, rfl, h4⟩ := e_pop_of h
  obtain ⟨h5, h6, h7, h8⟩ := e_cond h4
  rw [List.append_nil] at h8
  obtain ⟨k, i, A2, rfl, hk⟩ := hrec _ _ _ h8
  have hlive : ∀ v ∈ aR k i :: A2, e_live S v := fun v hv2 => hv.2 v (List.mem_append_left _ (List.mem_reverse.mpr hv2))
  have hkl : k < 20 := by
    rcases Nat.lt_or_ge k 15 with z | z
    · omega
    · rw [e_kd_big z] at hk; omega
  obtain ⟨pz, hp, hpz⟩ := e_at (G := G) (e_in (hlive _ List.mem_cons_self) hkl)
  rw [e_cell_o hk hc] at hpz
  obtain ⟨g1, g2, g3, g4, g5⟩ := hC
  obtain ⟨hx, hb, hml, ho, hts, hSt, hgb, hdf, hdl, hRc, hRs, -⟩ := id C
  have hrv : ∃ cell : Cell, H[e_ad G S (k, i)]? = some cell ∧ cell.vm.isStatics = false ∧ s.vm.findClass (e_R c) = some cell.cls := va_recv hSt.1 hW.1 (e_C_at hc) hpz
  have hM := hM2 G ⟨hG, C.2.2.2.2.2.2.2.2.2.2.2.2⟩ (aR k i :: A2) S _ h8 hlive hW.2.2
  have hrun := vx_runSU (bytes := iB M2) (maxL := iL M2) (ret := iT M2) (n := n) (own := own) (C := e_R c) (index := idx) (As := A2.map (e_cv G S)) (rest := r.map (e_cv G S)) (b := e_ad G S (k, i)) (g := F0 m pc ls (((aR k i :: A2).reverse ++ r).map (e_cv G S))) (cells := cells) (slots := slots) (locs := locs) (H := H) (below := below) (meth := meth) (e := e)
    (hSt.1.1 c _ (e_C_at hc)).2 ⟨hx, hb, hml, ho, hts⟩ hM
    ⟨⟨rfl, rfl, by show iD M2 + 1 ≤ R.frames; omega, by show 8 + (iL M2 + 11) + 64 * iD M2 ≤ R.locals; omega, e_ws_at g1 hts, List.mem_cons_self⟩, hts _ hl, hts _ hsm, hts _ hsu, hts _ hi, hts _ g2, hts _ g1, hni, fun sig hsig => by rw [hsig] at g4; exact (Option.some.inj g4).symm⟩
    ⟨e_blind, hrv, e_pre hSt hgb hW hS⟩ rfl (by rw [List.length_map]; simpa using h3) hl2.1 (by simp [e_cv, va_rf, List.map_append, List.map_reverse]) (lv_room (by rw [e_sz_eq]; exact Nat.le_of_ble_eq_true h5)) d ⟨by omega, by omega⟩
  refine e_after hrun hS (fun rv S2 H1 locs1 hq hlv hle2 hW2 hS2 => ?_)
  have hz := hK _ _ _ _ _ _ hq H1 locs1 ls (cells + mc2) (slots + ms2) hW2 hS2 ⟨hl2.1, hl2.2.1, fun j v hj => by rw [hle2.cv (hv.1 v (List.mem_of_getElem? hj))]; exact hl2.2.2 j v hj⟩ ⟨fun v hv2 => hle2.live (hv.1 v hv2), fun v hv2 => ?_⟩ (hle.trans hle2) (by omega) (by omega)
  · rw [e_push_eq, hle2.cvs (fun v hv2 => hv.2 v (List.mem_append_right _ hv2))] at hz
    exact hz
  · cases rv with
    | none => exact hle2.live (hv.2 v (List.mem_append_right _ hv2))
    | some u =>
      rcases List.mem_cons.mp hv2 with rfl | hv2
      · exact hlv _ rfl
      · exact hle2.live (hv.2 v (List.mem_append_right _ hv2))
/-- a call of a literal's method -/
theorem s_callVL {n idx mc2 ms2 : Nat} {M2 : eI} {w : eW} (hM2 : e_OK rf M2 mc2 ms2 w) (d : decode (iB M) pc = .ok (.invokevirtual idx, 3)) (hC : e_Cl M2 n) (hcn : (iN M2).cls = RJ0) (hl : Cond.methodLink own idx (iN M2) ∈ e_all) (hi : Cond.instanceMethod (iN M2) ∈ e_all) (hs : Cond.selects RJ0 (iN M2) (iN M2) ∈ e_all) (hd : iD M2 + 1 ≤ iD M)
    (hrec : ∀ As S post, w As S post → ∃ i r, As = aR 20 i :: r ∧ i < 4) : e_Sd rf own M pc (t_call (n + 1) mc2 ms2 w pc) := by
  intro G mc ms p e R s m args below meth c0 Q S0 Qc Qx hG C hR hT K hK lc st S bc bs h H locs ls cells slots hW hS hl2 hv hle hbc hbs
  obtain ⟨As, r, h3, rfl, h4⟩ := e_pop_of h
  obtain ⟨h5, h6, h7, h8⟩ := e_cond h4
  rw [List.append_nil] at h8
  obtain ⟨i, A2, rfl, hk⟩ := hrec _ _ _ h8
  have hlive : ∀ v ∈ aR 20 i :: A2, e_live S v := fun v hv2 => hv.2 v (List.mem_append_left _ (List.mem_reverse.mpr hv2))
  obtain ⟨g1, g2, g3, g4, g5⟩ := hC
  obtain ⟨hx, hb, hml, ho, hts, hSt, hgb, hdf, hdl, hRc, hRs, -⟩ := id C
  have hrv : ∃ cell : Cell, H[e_ad G S (20, i)]? = some cell ∧ cell.vm.isStatics = false ∧ s.vm.findClass RJ0 = some cell.cls := by
    obtain ⟨cell, z1, z2, z3, -⟩ := (hSt.str.1 i hk).1.kept hS.2.1
    exact ⟨cell, z1, z2, z3⟩
  have hM := hM2 G ⟨hG, C.2.2.2.2.2.2.2.2.2.2.2.2⟩ (aR 20 i :: A2) S _ h8 hlive hW.2.2
  have hrun := vx_runV (bytes := iB M2) (maxL := iL M2) (ret := iT M2) (n := n) (own := own) (C := RJ0) (index := idx) (As := A2.map (e_cv G S)) (rest := r.map (e_cv G S)) (b := e_ad G S (20, i)) (g := F0 m pc ls (((aR 20 i :: A2).reverse ++ r).map (e_cv G S))) (cells := cells) (slots := slots) (locs := locs) (H := H) (below := below) (meth := meth) (e := e)
    ⟨hx, hb, hml, ho, hts⟩ hM
    ⟨⟨rfl, rfl, by show iD M2 + 1 ≤ R.frames; omega, by show 8 + (iL M2 + 11) + 64 * iD M2 ≤ R.locals; omega, e_ws_at g1 hts, List.mem_cons_self, hts _ g1, hts _ g2, g3, fun sig hsig => by rw [hsig] at g4; exact (Option.some.inj g4).symm, hts _ hl⟩, hts _ hi, hts _ hs⟩
    ⟨e_blind, hrv, e_pre hSt hgb hW hS⟩ rfl (by rw [List.length_map]; simpa using h3) hl2.1 (by simp [e_cv, va_rf, List.map_append, List.map_reverse]) (lv_room (by rw [e_sz_eq]; exact Nat.le_of_ble_eq_true h5)) d ⟨by omega, by omega⟩
  refine e_after hrun hS (fun rv S2 H1 locs1 hq hlv hle2 hW2 hS2 => ?_)
  have hz := hK _ _ _ _ _ _ hq H1 locs1 ls (cells + mc2) (slots + ms2) hW2 hS2 ⟨hl2.1, hl2.2.1, fun j v hj => by rw [hle2.cv (hv.1 v (List.mem_of_getElem? hj))]; exact hl2.2.2 j v hj⟩ ⟨fun v hv2 => hle2.live (hv.1 v hv2), fun v hv2 => ?_⟩ (hle.trans hle2) (by omega) (by omega)
  · rw [e_push_eq, hle2.cvs (fun v hv2 => hv.2 v (List.mem_append_right _ hv2))] at hz
    exact hz
  · cases rv with
    | none => exact hle2.live (hv.2 v (List.mem_append_right _ hv2))
    | some u =>
      rcases List.mem_cons.mp hv2 with rfl | hv2
      · exact hlv _ rfl
      · exact hle2.live (hv.2 v (List.mem_append_right _ hv2))
/-- readings of a literal's methods -/
def e_sl0 (w : eW) : eW := fun As S post => e_self 20 As fun i _ => cond (Nat.blt i 4) (w As S post) False
theorem e_sl0_rec {w : eW} : ∀ (As : List eV) (S : eM) (post : eQ), e_sl0 w As S post → ∃ i r, As = aR 20 i :: r ∧ i < 4 := fun _ _ _ h => by
  obtain ⟨i, r, h1, h2⟩ := e_self_of h
  exact ⟨i, r, h1, Nat.le_of_ble_eq_true (e_cond h2).1⟩
theorem k_sl0 {rf : Nat → Nat → Nat → Option (Nat × Nat)} {M : eI} {mc ms : Nat} {w : eW} (h : e_OK rf M mc ms w) : e_OK rf M mc ms (e_sl0 w) := by
  intro G hG As S post h2
  obtain ⟨i, r, -, h3⟩ := e_self_of h2
  exact h G hG As S post (e_cond h3).2
theorem e_sf_rec0 {kk : Nat} {w : eW} (_ : kk = kk) : ∀ (As : List eV) (S : eM) (post : eQ), e_sf kk w As S post → ∃ k i r, As = aR k i :: r := fun _ _ _ h => by
  obtain ⟨i, r, h1, -⟩ := e_self_of h
  exact ⟨kk, i, r, h1⟩
theorem e_rf_b {k i j : Nat} (h : e_kd k = 101) : e_rf k i j = none := by
  rcases Nat.lt_or_ge k 15 with z | z
  · have key : ∀ k, k < 15 → e_kd k = 101 → k = 11 := by decide
    rw [key k z h]
    rfl
  · rw [e_kd_big z] at h
    omega
/-- while things are made nothing is final yet -/
def e_r0 : Nat → Nat → Nat → Option (Nat × Nat) := fun _ _ _ => none
end Foreign
