/-! The law's own steps: methods with handlers as callees; which handler a class of exceptions goes to. Own work. -/
/-- where exceptions go: one handler, two handlers -/
def e_h1 (a : String) (x : Nat) : String → Option Nat := fun E => if E = a then some x else none
def e_h2 (a b : String) (x y : Nat) : String → Option Nat := fun E => if E = a then some x else if E = b then some y else none
theorem e_h1_at {a : String} {x : Nat} : e_h1 a x a = some x := if_pos rfl
theorem e_h2_a {a b : String} {x y : Nat} : e_h2 a b x y a = some x := if_pos rfl
theorem e_h2_b {a b : String} {x y : Nat} (h : b ≠ a) : e_h2 a b x y b = some y := (if_neg h).trans (if_pos rfl)
theorem e_h1_of {a E : String} {x t : Nat} (h : e_h1 a x E = some t) : E = a ∧ t = x := by
  unfold e_h1 at h
  split at h
  · exact ⟨by assumption, by cases h; rfl⟩
  · cases h
theorem e_h2_of {a b E : String} {x y t : Nat} (h : e_h2 a b x y E = some t) : (E = a ∧ t = x) ∨ (E = b ∧ t = y) := by
  unfold e_h2 at h
  split at h
  · exact Or.inl ⟨by assumption, by cases h; rfl⟩
  · split at h
    · exact Or.inr ⟨by assumption, by cases h; rfl⟩
    · cases h
theorem e_ct1 {own E : String} {M : eI} {pc t a b h ct : Nat} {r : List (Nat × Nat × Nat × Nat)} (hc : covers ⟨a, b, h, ct⟩ pc = true) (h0 : ct ≠ 0) (hl : Cond.classLink own ct E ∈ e_all) (hk : Cond.castable E E ∈ e_fw) (hd : (∃ k : Fin 4, decode (iB M) h = .ok (.astore_n k, 1) ∧ (k : Nat) < iL M ∧ t = h + 1) ∨ ∃ k : Nat, decode (iB M) h = .ok (.astore k, 2) ∧ k < iL M ∧ t = h + 2) : e_ctc (tableOf ((a, b, h, ct) :: r)) own M pc E t :=
  ⟨[], ⟨a, b, h, ct⟩, tableOf r, rfl, fun z hz => absurd hz List.not_mem_nil, hc, h0, hl, hk, hd⟩
theorem e_ct2 {own E nm : String} {M : eI} {pc t a b h ct a1 b1 h1 ct1 : Nat} {r : List (Nat × Nat × Nat × Nat)} (g0 : ct1 ≠ 0) (gl : Cond.classLink own ct1 nm ∈ e_all) (gp : (E, nm) ∈ e_prs) (hc : covers ⟨a, b, h, ct⟩ pc = true) (h0 : ct ≠ 0) (hl : Cond.classLink own ct E ∈ e_all) (hk : Cond.castable E E ∈ e_fw) (hd : (∃ k : Fin 4, decode (iB M) h = .ok (.astore_n k, 1) ∧ (k : Nat) < iL M ∧ t = h + 1) ∨ ∃ k : Nat, decode (iB M) h = .ok (.astore k, 2) ∧ k < iL M ∧ t = h + 2) : e_ctc (tableOf ((a1, b1, h1, ct1) :: (a, b, h, ct) :: r)) own M pc E t :=
  ⟨[⟨a1, b1, h1, ct1⟩], ⟨a, b, h, ct⟩, tableOf r, rfl, fun z hz => by cases List.mem_singleton.mp hz; exact ⟨g0, nm, gl, gp⟩, hc, h0, hl, hk, hd⟩
theorem e_in15 : vp_in (0 : Int32) (e_ln 15 0) := by unfold vp_in; decide
section Law5
variable {rf : Nat → Nat → Nat → Option (Nat × Nat)} {own : String} {M : eI} {hh : List (Nat × Nat × Nat × Nat)} {mc ms : Nat}
/-- the words of a method with handlers -/
def e_wsH (M : eI) (hh : List (Nat × Nat × Nat × Nat)) : List Cond := .codeWith (iN M) (iB M) (iL M) (iT M) hh :: e_all
/-- a method with handlers that keeps what its reading says -/
def e_OH (rf : Nat → Nat → Nat → Option (Nat × Nat)) (M : eI) (hh : List (Nat × Nat × Nat × Nat)) (mc ms : Nat) (w : eW) : Prop := ∀ G : eG, e_gd rf G → ∀ (As : List eV) (S : eM) (post : eQ), w As S post → (∀ v ∈ As, e_live S v) → e_ok (gr G) S → vx_Met (gl G) (iN M) (e_wsH M hh) (e_rm (iD M) mc ms) (e_Pc G S As) (e_Qc G S post) (e_Xc G S e_no) mc ms (e_A G)
def e_ClH (M : eI) (hh : List (Nat × Nat × Nat × Nat)) (n : Nat) : Prop := Cond.codeWith (iN M) (iB M) (iL M) (iT M) hh ∈ e_all ∧ Cond.initialized (iN M).cls ∈ e_all ∧ ((iN M).cls ≠ "java/lang/invoke/MethodHandle" ∧ (iN M).cls ≠ "java/lang/invoke/VarHandle") ∧ (parseMethodDescriptor (iN M).desc).map (fun d => d.parameters.length) = some n ∧ iL M ≤ 45
theorem e_wsH_at {args : Array Value} {s : State} (h1 : Cond.codeWith (iN M) (iB M) (iL M) (iT M) hh ∈ e_all) (h : ∀ w ∈ e_all, w.before args s = true) : ∀ w ∈ e_wsH M hh, ∀ (a2 : Array Value) (U : State), s.WarmedH U.vm → w.before a2 U = true := by
  intro w hw a2 U hW
  rcases List.mem_cons.mp hw with rfl | hw
  · exact e_all_good hW h _ h1
  · exact e_all_good hW h _ hw
theorem e_madeH {tb : eTb} (hM : plainName (iN M).cls = true ∧ (iN M).cls = own) (ho : own ≠ RX4) {G : eG} (hG : e_gd rf G) (htb : ∀ x ∈ tb, e_Sh (tableOf hh) G own M x.1 x.2) {As : List eV} {S : eM} {post : eQ} (hln : Nat.ble (e_l1 As).length (iL M) = true) (hr : e_Run tb post e_no 0 (e_l0 As (iL M)) [] S mc ms) (hlive : ∀ v ∈ As, e_live S v) : vx_Met (gl G) (iN M) (e_wsH M hh) (e_rm (iD M) mc ms) (e_Pc G S As) (e_Qc G S post) (e_Xc G S e_no) mc ms (e_A G) := by
  refine vx_ofWH (cc := iB M) (maxL := iL M) (ret := iT M) (hh := hh) hM.1 rfl ?_
  intro p e s m args below meth c s₁ B hml hv
  obtain ⟨rfl, hSt, hgb, hW⟩ := hv
  have hts : ∀ w ∈ e_wsH M hh, w.before _ s = true := atoms_spec (ws := e_wsH M hh) B.pre
  have htab : c.exceptionTable.toList = tableOf hh := vx_table (x := iN M) B (hts _ List.mem_cons_self)
  have hown : s.vm.findClass own = some m.cls := hM.2 ▸ findClass_of_methodNamed B.named
  have hC : e_Cx G own M mc ms p (e_rm (iD M) mc ms) s m (As.map (e_cv G S)).toArray meth c := ⟨B.exec, B.bytes, hml, hown, fun w hw => hts w (List.mem_cons_of_mem _ hw), hSt, hgb, Nat.le_refl _, Nat.le_refl _, rfl, rfl, fun h => ((name_of_methodNamed B.named B.method).1).trans h, hG.2⟩
  have hl := lv_entry (As.map (e_cv G S)) (n := iL M) (by rw [e_l1_len]; exact Nat.le_of_ble_eq_true hln)
  rw [lg_entry_eq]
  generalize (lg_sl (As.map (e_cv G S)) ++ List.replicate (iL M - (lg_sl (As.map (e_cv G S))).length) Slot.unset).toArray = ls at hl ⊢
  exact hr (e_WM G M mc ms p e (e_rm (iD M) mc ms) s m (As.map (e_cv G S)).toArray below meth c (vx_MQ below (e_Qc G S post) (e_Xc G S e_no) (As.map (e_cv G S)).toArray s mc ms (e_A G)) S)
    (fun x hx K hK => htb x hx mc ms p e (e_rm (iD M) mc ms) s m _ below meth c _ S post e_no htab hC (e_Rt_of B.exec B.bytes B.returns B.notSynchronized) (fun _ _ _ _ _ _ _ _ _ _ _ _ _ _ _ _ _ _ _ z => absurd z ho) K hK)
    (fun pc lc l2 st S2 bc bs h2 hw H locs ls cells slots a1 a2 a3 a4 a5 a6 a7 => hw H locs ls cells slots a1 a2 ⟨a3.1, a3.2.1, fun i v hv => a3.2.2 i v (h2 i v hv)⟩ ⟨fun w hw => by
      obtain ⟨i, hi⟩ := List.getElem?_of_mem hw
      exact a4.1 w (List.mem_of_getElem? (h2 i w hi)), a4.2⟩ a5 a6 a7)
    s.heap [] ls 0 0 hW va_S.rf (e_lv0 hl) ⟨e_l0_live hlive, fun v hv => absurd hv List.not_mem_nil⟩ e_le.rf (Nat.zero_add _) (Nat.zero_add _)
theorem k_hh {tb : eTb} (hM : plainName (iN M).cls = true ∧ (iN M).cls = own) (ho : own ≠ RX4) (htb : ∀ G : eG, gr G = rf → ∀ x ∈ tb, e_Sh (tableOf hh) G own M x.1 x.2) : e_OH rf M hh mc ms (e_rn tb (iL M) mc ms) := by
  intro G hG As S post h hlive hok
  obtain ⟨h1, h2⟩ := e_cond h
  exact e_madeH hM ho hG (htb G hG.1) h1 h2 hlive
theorem s_callSH {G : eG} {pc n idx mc2 ms2 : Nat} {M2 : eI} {w : eW} (hG : gr G = rf) (hM2 : e_OH rf M2 hh mc2 ms2 w) (d : decode (iB M) pc = .ok (.invokestatic idx, 3)) (hC : e_ClH M2 hh n) (hl : Cond.methodLink own idx (iN M2) ∈ e_all) (hi : Cond.static (iN M2) ∈ e_all) (hd : iD M2 + 1 ≤ iD M) : e_Sg G own M pc (t_call n mc2 ms2 w pc) := by
  intro mc ms p e R s m args below meth c0 Q S0 Qc Qx C hR hT K hK lc st S bc bs h H locs ls cells slots hW hS hl2 hv hle hbc hbs
  obtain ⟨As, r, h3, rfl, h4⟩ := e_pop_of h
  obtain ⟨h5, h6, h7, h8⟩ := e_cond h4
  rw [List.append_nil] at h8
  have hlive : ∀ v ∈ As, e_live S v := fun v hv2 => hv.2 v (List.mem_append_left _ (List.mem_reverse.mpr hv2))
  obtain ⟨g1, g2, g3, g4, g5⟩ := hC
  obtain ⟨hx, hb, hml, ho, hts, hSt, hgb, hdf, hdl, hRc, hRs, -⟩ := id C
  have hM := hM2 G ⟨hG, C.2.2.2.2.2.2.2.2.2.2.2.2⟩ As S _ h8 hlive hW.2.2
  have hrun := vx_runSX (bytes := iB M2) (maxL := iL M2) (ret := iT M2) (hh := hh) (n := n) (own := own) (index := idx) (As := As.map (e_cv G S)) (rest := r.map (e_cv G S)) (g := F0 m pc ls ((As.reverse ++ r).map (e_cv G S))) (cells := cells) (slots := slots) (locs := locs) (H := H) (below := below) (meth := meth) (e := e)
    ⟨hx, hb, hml, ho, hts⟩ hM
    ⟨⟨rfl, rfl, by show iD M2 + 1 ≤ R.frames; omega, by show 8 + (iL M2 + 11) + 64 * iD M2 ≤ R.locals; omega, e_wsH_at g1 hts, List.mem_cons_self⟩, hts _ g1, hts _ g2, g3, fun sig hsig => by rw [hsig] at g4; exact (Option.some.inj g4).symm, hts _ hl, hts _ hi⟩
    ⟨e_blind, e_pre hSt hgb hW hS⟩ rfl (by rw [List.length_map]; exact h3) hl2.1 (by simp [List.map_append, List.map_reverse]) (lv_room (by rw [e_sz_eq]; exact Nat.le_of_ble_eq_true h5)) d ⟨by omega, by omega⟩
  refine e_after hrun hS (fun rv S2 H1 locs1 hq hlv hle2 hW2 hS2 => ?_)
  have hz := hK _ _ _ _ _ _ hq H1 locs1 ls (cells + mc2) (slots + ms2) hW2 hS2 ⟨hl2.1, hl2.2.1, fun j v hj => by rw [hle2.cv (hv.1 v (List.mem_of_getElem? hj))]; exact hl2.2.2 j v hj⟩ ⟨fun v hv2 => hle2.live (hv.1 v hv2), fun v hv2 => ?_⟩ (hle.trans hle2) (by omega) (by omega)
  · rw [e_push_eq, hle2.cvs (fun v hv2 => hv.2 v (List.mem_append_right _ hv2))] at hz
    exact hz
  · cases rv with
    | none => exact hle2.live (hv.2 v (List.mem_append_right _ hv2))
    | some u =>
      rcases List.mem_cons.mp hv2 with rfl | hv2
      · exact hlv _ rfl
      · exact hle2.live (hv.2 v (List.mem_append_right _ hv2))
end Law5
