/-! The law's own steps: a call whose exceptions are caught. Own work. -/
section Law3
variable {own : String} {M : eI} {pc : Nat} {G : eG} {tbl : List ExceptionTableEntry}
/-- a step is sound, under one setting and with a table of handlers -/
def e_Sh (tbl : List ExceptionTableEntry) (G : eG) (own : String) (M : eI) (pc : Nat) (T : eTr) : Prop :=
  ∀ (mc ms : Nat) (p : Program) (e : Env) (R : Room) (s : State) (m : MethodId) (args : Array Value) (below : List Frame) (meth : Method) (c : Code) (Q : State → Prop) (S0 : eM) (Qc : eQ) (Qx : eX),
    c.exceptionTable.toList = tbl → e_Cx G own M mc ms p R s m args meth c → e_Rt G M mc ms p e R s m args below meth c Q S0 Qc → e_Th G own M mc ms p e R s m args below meth c Q S0 Qx →
    ∀ K : eK, (∀ pc lc st S bc bs, K pc lc st S bc bs → e_WM G M mc ms p e R s m args below meth c Q S0 pc lc st S bc bs) →
      ∀ lc st S bc bs, T Qc Qx K lc st S bc bs → e_WM G M mc ms p e R s m args below meth c Q S0 pc lc st S bc bs
theorem e_Sh.of {T : eTr} (h : e_Sg G own M pc T) : e_Sh tbl G own M pc T :=
  fun mc ms p e R s m args below meth c Q S0 Qc Qx _ => h mc ms p e R s m args below meth c Q S0 Qc Qx
/-- a call of a reading that may throw; hd: where each exception goes -/
def t_callX (n mc2 ms2 : Nat) (w : eWX) (hd : String → Option Nat) (pc : Nat) : eTr := fun _ _ K lc st S bc bs => e_pop n st [] fun As r => cond (Nat.ble (e_sz r) 8) (mc2 ≤ bc ∧ ms2 ≤ bs ∧ w As S (fun v S2 => K (pc + 3) lc (e_push v r) S2 (bc - mc2) (bs - ms2)) (fun E S2 => ∃ t, hd E = some t ∧ K t [] [] S2 (bc - mc2) (bs - ms2))) False
def e_prs : List (String × String) := [("java/lang/IllegalArgumentException", "java/lang/IllegalStateException"), ("java/lang/IllegalStateException", "java/lang/IndexOutOfBoundsException"), ("java/lang/IllegalArgumentException", "java/lang/IndexOutOfBoundsException")]
/-- what a handler rests on -/
def e_ctc (tbl : List ExceptionTableEntry) (own : String) (M : eI) (pc : Nat) (E : String) (t : Nat) : Prop :=
  ∃ (pre : List ExceptionTableEntry) (x : ExceptionTableEntry) (suf : List ExceptionTableEntry), tbl = pre ++ x :: suf ∧ (∀ z ∈ pre, z.catchType ≠ 0 ∧ ∃ nm : String, Cond.classLink own z.catchType nm ∈ e_all ∧ (E, nm) ∈ e_prs) ∧ covers x pc = true ∧ x.catchType ≠ 0 ∧ Cond.classLink own x.catchType E ∈ e_all ∧ Cond.castable E E ∈ e_fw ∧ ((∃ k : Fin 4, decode (iB M) x.handlerPc = .ok (.astore_n k, 1) ∧ (k : Nat) < iL M ∧ t = x.handlerPc + 1) ∨ ∃ k : Nat, decode (iB M) x.handlerPc = .ok (.astore k, 2) ∧ k < iL M ∧ t = x.handlerPc + 2)
theorem s_callX {rf : Nat → Nat → Nat → Option (Nat × Nat)} {n idx c mc2 ms2 : Nat} {M2 : eI} {w : eWX} {hd : String → Option Nat} (hG : gr G = rf) (hM2 : e_OX rf M2 mc2 ms2 w) (d : decode (iB M) pc = .ok (.invokevirtual idx, 3)) (hC : e_Cl M2 n) (hc : c < 7) (hl : Cond.methodLink own idx (iN M2) ∈ e_all) (hi : Cond.instanceMethod (iN M2) ∈ e_all) (hs : Cond.selects (e_R c) (iN M2) (iN M2) ∈ e_all) (hdd : iD M2 + 1 ≤ iD M)
    (hrec : ∀ As S post X, w As S post X → ∃ k i r, As = aR k i :: r ∧ e_kd k = c) (hcat : ∀ E t, hd E = some t → e_ctc tbl own M pc E t) : e_Sh tbl G own M pc (t_callX (n + 1) mc2 ms2 w hd pc) := by
  intro mc ms p e R s m args below meth c0 Q S0 Qc Qx htb C hR hT K hK lc st S bc bs h H locs ls cells slots hW hS hl2 hv hle hbc hbs
  obtain ⟨As, r, h3, rfl, h4⟩ := e_pop_of h
  obtain ⟨h5, h6, h7, h8⟩ := e_cond h4
  rw [List.append_nil] at h8
  obtain ⟨k, i, A2, rfl, hk⟩ := hrec _ _ _ _ h8
  have hlive : ∀ v ∈ aR k i :: A2, e_live S v := fun v hv2 => hv.2 v (List.mem_append_left _ (List.mem_reverse.mpr hv2))
  have hkl : k < 20 := by
    rcases Nat.lt_or_ge k 15 with z | z
    · omega
    · rw [e_kd_big z] at hk; omega
  obtain ⟨pz, hp, hpz⟩ := e_at (G := G) (e_in (hlive _ List.mem_cons_self) hkl)
  rw [e_cell_o hk hc] at hpz
  obtain ⟨g1, g2, g3, g4, g5⟩ := hC
  obtain ⟨hx, hb, hml, ho, hts, hSt, hgb, hdf, hdl, hRc, hRs, -⟩ := id C
  have hrv : ∃ cell : Cell, H[e_ad G S (k, i)]? = some cell ∧ cell.vm.isStatics = false ∧ s.vm.findClass (e_R c) = some cell.cls := va_recv hSt.1 hW.1 (e_C_at hc) hpz
  have hM := hM2 G ⟨hG, C.2.2.2.2.2.2.2.2.2.2.2.2⟩ (aR k i :: A2) S _ _ h8 hlive (hG ▸ hW.2.2)
  have hrun := vx_runV (bytes := iB M2) (maxL := iL M2) (ret := iT M2) (n := n) (own := own) (C := e_R c) (index := idx) (As := A2.map (e_cv G S)) (rest := r.map (e_cv G S)) (b := e_ad G S (k, i)) (g := F0 m pc ls (((aR k i :: A2).reverse ++ r).map (e_cv G S))) (cells := cells) (slots := slots) (locs := locs) (H := H) (below := below) (meth := meth) (e := e)
    ⟨hx, hb, hml, ho, hts⟩ hM
    ⟨⟨rfl, rfl, by show iD M2 + 1 ≤ R.frames; omega, by show 8 + (iL M2 + 11) + 64 * iD M2 ≤ R.locals; omega, e_ws_at g1 hts, List.mem_cons_self, hts _ g1, hts _ g2, g3, fun sig hsig => by rw [hsig] at g4; exact (Option.some.inj g4).symm, hts _ hl⟩, hts _ hi, hts _ hs⟩
    ⟨e_blind, hrv, e_pre hSt hgb hW hS⟩ rfl (by rw [List.length_map]; simpa using h3) hl2.1 (by simp [e_cv, va_rf, List.map_append, List.map_reverse]) (lv_room (by rw [e_sz_eq]; exact Nat.le_of_ble_eq_true h5)) d ⟨by omega, by omega⟩
  refine e_afterX hrun hS (fun E ce q S2 H1 locs1 hq hle2 hW2 hS2 hce hcv hcl => ?_) (fun rv S2 H1 locs1 hq hlv hle2 hW2 hS2 => ?_)
  · obtain ⟨t, ht, hKt⟩ := hq
    obtain ⟨pre, x, suf, t1, t2, t3, t4, t5, t6, t7⟩ := hcat E t ht
    obtain ⟨-, -, -, -, -, -, -, -, -, -, -, -, h13, h14, h15, h16, -⟩ := hSt
    refine vx_catch ho pre x suf (htb.trans t1) (fun z hz => Or.inr ?_) t3 t4 (hts _ t5) ((h13 _ t6).use (e_fw_tab _ t6)) hce hcv hcl ?_
    · obtain ⟨z1, nm, z2, z3⟩ := t2 z hz
      refine ⟨z1, nm, hts _ z2, ?_⟩
      simp only [e_prs, List.mem_cons, List.not_mem_nil, or_false] at z3
      rcases z3 with z3 | z3 | z3 <;> cases z3
      · exact h14
      · exact h15
      · exact h16
    · rcases t7 with ⟨k4, t7, t8, rfl⟩ | ⟨k4, t7, t8, rfl⟩
      · exact e_hand C hl2 t7 rfl t8 hW2 hS2 (hle.trans hle2) (by omega) (by omega) (hK _ _ _ _ _ _ hKt)
      · exact e_hand2 C hl2 t7 t8 hW2 hS2 (hle.trans hle2) (by omega) (by omega) (hK _ _ _ _ _ _ hKt)
  have hz := hK _ _ _ _ _ _ hq H1 locs1 ls (cells + mc2) (slots + ms2) hW2 hS2 ⟨hl2.1, hl2.2.1, fun j v hj => by rw [hle2.cv (hv.1 v (List.mem_of_getElem? hj))]; exact hl2.2.2 j v hj⟩ ⟨fun v hv2 => hle2.live (hv.1 v hv2), fun v hv2 => ?_⟩ (hle.trans hle2) (by omega) (by omega)
  · rw [e_push_eq, hle2.cvs (fun v hv2 => hv.2 v (List.mem_append_right _ hv2))] at hz
    exact hz
  · cases rv with
    | none => exact hle2.live (hv.2 v (List.mem_append_right _ hv2))
    | some u =>
      rcases List.mem_cons.mp hv2 with rfl | hv2
      · exact hlv _ rfl
      · exact hle2.live (hv.2 v (List.mem_append_right _ hv2))
end Law3
