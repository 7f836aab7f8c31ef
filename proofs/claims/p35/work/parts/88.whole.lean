/-! The law, from its start to its end. Own work. -/
section Whole
/-- the same, once all is made -/
def e_up (G : eG) : eG := (gl G, gD G, gA G, gF G, gb G, e_rf, gn G, gx G)
theorem e_WM_of {G : eG} {M : eI} {mc ms : Nat} {p : Program} {e : Env} {R : Room} {s : State} {m : MethodId} {args : Array Value} {below : List Frame} {meth : Method} {c : Code} {Q : State → Prop} {S0 : eM} {tb : eTb} {post : eQ}
    (hcl : ∀ x ∈ tb, ∀ K : eK, (∀ pc lc st S bc bs, K pc lc st S bc bs → e_WM G M mc ms p e R s m args below meth c Q S0 pc lc st S bc bs) → ∀ lc st S bc bs, x.2 post e_no K lc st S bc bs → e_WM G M mc ms p e R s m args below meth c Q S0 x.1 lc st S bc bs)
    {pc : Nat} {lc : List (Option eV)} {st : List eV} {S : eM} {bc bs : Nat} (hr : e_Run tb post e_no pc lc st S bc bs) : e_WM G M mc ms p e R s m args below meth c Q S0 pc lc st S bc bs :=
  hr _ hcl (fun pc lc l2 st S2 bc bs h2 hw H locs ls cells slots a1 a2 a3 a4 a5 a6 a7 => hw H locs ls cells slots a1 a2 ⟨a3.1, a3.2.1, fun i v hv => a3.2.2 i v (h2 i v hv)⟩ ⟨fun w hw => by
    obtain ⟨i, hi⟩ := List.getElem?_of_mem hw
    exact a4.1 w (List.mem_of_getElem? (h2 i w hi)), a4.2⟩ a5 a6 a7)
/-- the law's own answer -/
def q_yes : eQ := fun v _ => v = some (aI 1)
/-- what is made holds -/
def q_all : eQ := fun v S => v = none ∧ (∀ sv sp tx, q_Y S q_v0 sv 0 sp false tx 0 0) ∧ q_refs S
end Whole
/-- YOUR PART: from the entry, for every script of at most 260 ints, the law comes to its end with true ('hflags': the launch's flags, for a law that throws: no stack traces) -/
theorem whole_start {p : Program} {e : Env} {s : State} {m : MethodId} {below : List Frame} {meth : Method} {c : Code} (l : Launch) (hflags : l.flags = flags0) {b L : Nat} {xs : Nat → Int32} (hL : L ≤ 260) (C0 : lw_At p s m meth c b L xs) : W p l e room_1 s m #[Value.ref b] below meth c s.heap [] 0 0 (lw_Z below #[Value.ref b] s) (entryFrame m ([Value.ref b] : List Value).toArray 4) := by
  obtain ⟨hx, hb, hr, hml, hown, hts, hX, hbl, hlocks, hgv⟩ := id C0
  have hs : ∀ w ∈ e_gv, w.before #[Value.ref b] s = true := flat_of_before _ hgv
  obtain ⟨G, rfl, gr0, rfl, rfl, gb0, rfl, hSt⟩ := e_begin l hts hs hX hbl
  have hst : (gl G).stackTraces = false := by
    unfold Launch.stackTraces
    rw [hflags]
    decide +kernel
  have C1 : e_Cx G RL i_L_law 798679 6705430 p room_1 s m #[Value.ref (gF G 23 0)] meth c := ⟨hx, hb, hml, hown, e_all_of hts, hSt, by rw [gb0]; exact Nat.le_refl _, Nat.le_of_ble_eq_true rfl, Nat.le_of_ble_eq_true rfl, rfl, rfl, fun z => absurd z (by decide), hst⟩
  have C2 : e_Cx (e_up G) RL i_L_law 798679 6705430 p room_1 s m #[Value.ref (gF G 23 0)] meth c := C1
  have no1 : e_Th G RL i_L_law 798679 6705430 p e room_1 s m #[Value.ref (gF G 23 0)] below meth c (lw_Z below #[Value.ref (gF G 23 0)] s) q_S0 e_no := fun _ _ _ _ _ _ _ _ _ _ _ _ _ _ _ _ _ _ _ z => absurd z (by decide)
  have no2 : e_Th (e_up G) RL i_L_law 798679 6705430 p e room_1 s m #[Value.ref (gF G 23 0)] below meth c (lw_Z below #[Value.ref (gF G 23 0)] s) q_S0 e_no := fun _ _ _ _ _ _ _ _ _ _ _ _ _ _ _ _ _ _ _ z => absurd z (by decide)
  have rt2 : e_Rt (e_up G) i_L_law 798679 6705430 p e room_1 s m #[Value.ref (gF G 23 0)] below meth c (lw_Z below #[Value.ref (gF G 23 0)] s) q_S0 q_yes := by
    intro v pc S H locs ls cells slots hW hS hlv hle hcm hsm hq d hty
    have hq : v = some (aI 1) := hq
    subst hq
    refine W.widen hcm hsm (va_forget (fun q hq => ?_) ?_)
    · have z := hS.2.2 q hq
      have z : gb G ≤ q.base := z
      rw [gb0] at z
      exact z
    · exact W.base (lw_ret (Drawn.sameBut.refl s.drawn lw_cs) hx hb hr hlocks d)
  have rt1 : e_Rt G i_L_law 798679 6705430 p e room_1 s m #[Value.ref (gF G 23 0)] below meth c (lw_Z below #[Value.ref (gF G 23 0)] s) q_S0 q_all := by
    intro v pc S H locs ls cells slots _ _ _ _ _ _ hq d hty
    obtain ⟨rfl, -⟩ := hq
    have hty : (some FieldType.boolean : Option FieldType) = none := hty
    cases hty
  have key2 : ∀ (S : eM) (bc bs : Nat), q_all none S → 138121 ≤ bc → 6444726 ≤ bs → e_WM (e_up G) i_L_law 798679 6705430 p e room_1 s m #[Value.ref (gF G 23 0)] below meth c (lw_Z below #[Value.ref (gF G 23 0)] s) q_S0 7 [some (aR 23 0), none, none, none] [aR 0 0] S bc bs := by
    intro S bc bs hq hbc hbs
    obtain ⟨-, hq, -⟩ := hq
    have hY : z_Y 0 S q_v0 ((fun _ => q_v0), 0, q_v0, false, (fun _ => 0), 0) := hq (fun _ => q_v0) q_v0 (fun _ => 0)
    refine e_WM_of (tb := tb_LB (gn G) (gx G)) (post := q_yes) (fun x hx K hK => st_LB (G := e_up G) rfl x hx 798679 6705430 p e room_1 s m _ below meth c _ q_S0 q_yes e_no C2 rt2 no2 K hK) ?_
    exact law_run (fun _ => rfl) hY bc bs hbc hbs
  have key1 : e_WM G i_L_law 798679 6705430 p e room_1 s m #[Value.ref (gF G 23 0)] below meth c (lw_Z below #[Value.ref (gF G 23 0)] s) q_S0 0 [some (aR 23 0), none, none, none] [] q_S0 798679 6705430 := by
    refine e_WM_of (tb := tb_LM (gn G) (gx G)) (post := q_all) (fun x hx K hK => ?_) (law_made (fun S h1 h2 => ⟨rfl, h1, h2⟩))
    rcases List.mem_append.mp hx with hx | hx
    · exact st_LA gr0 x hx 798679 6705430 p e room_1 s m _ below meth c _ q_S0 q_all e_no C1 rt1 no1 K hK
    · cases List.mem_singleton.mp hx
      intro lc st S bc bs h
      obtain ⟨rfl, rfl, hbc0, hbs0, hq⟩ := h
      intro H locs ls cells slots hW hS hl hv hle hbc hbs
      exact key2 S bc bs hq hbc0 hbs0 H locs ls cells slots ⟨hW.1, hW.2.1, hW.2.2.1, hW.2.2.2.1, hW.2.2.2.2.1, hq.2.2⟩ hS hl hv hle hbc hbs
  have hW0 : e_Wd G q_S0 s.heap := by
    refine ⟨fun k q h => ?_, ⟨fun i j p q h => ?_, fun k q h => ?_⟩, fun q h => absurd h List.not_mem_nil, List.nodup_nil, fun k i j q h => (by cases h), fun k i j q h => absurd h List.not_mem_nil⟩
    · have h : ([] : va_W)[k]? = some q := h
      simp at h
    · have h : ([] : va_W)[i]? = some p := h
      simp at h
    · have h : ([] : va_W)[k]? = some q := h
      simp at h
  have hl := lv_entry ([Value.ref (gF G 23 0)]) (n := 4) (Nat.le_of_ble_eq_true rfl)
  rw [lg_entry_eq]
  generalize (lg_sl ([Value.ref (gF G 23 0)]) ++ List.replicate (4 - (lg_sl ([Value.ref (gF G 23 0)])).length) Slot.unset).toArray = ls at hl ⊢
  exact key1 s.heap [] ls 0 0 hW0 va_S.rf (e_lv0 (G := G) (S := q_S0) (As := [aR 23 0]) hl) ⟨e_l0_live (As := [aR 23 0]) (n := 4) (fun v hv => by cases List.mem_singleton.mp hv; exact e_live.o (fun q z => by cases z; exact Or.inr (by decide))), fun v hv => absurd hv List.not_mem_nil⟩ e_le.rf (Nat.zero_add _) (Nat.zero_add _)
