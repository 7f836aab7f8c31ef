/-! THE ENGINE, 2: what a method owes, the walk's judgement, steps that leave the heap alone. Own work. -/
theorem e_all_good {args a2 : Array Value} {s U : State} (hW : s.WarmedH U.vm) (h : ∀ w ∈ e_all, w.before args s = true) : ∀ w ∈ e_all, w.before a2 U = true := fun w hw => word_at hW (good_of_word ((List.mem_append.mp hw).elim (fun z => (List.mem_filter.mp z).2) (e_xt_good w))) (h w hw)
/-- a method: its name, its code, its locals, what it answers, how deep its calls go -/
abbrev eI : Type := MethodName × ByteArray × Nat × Option FieldType × Nat
abbrev iN (M : eI) : MethodName := M.1
abbrev iB (M : eI) : ByteArray := M.2.1
abbrev iL (M : eI) : Nat := M.2.2.1
abbrev iT (M : eI) : Option FieldType := M.2.2.2.1
abbrev iD (M : eI) : Nat := M.2.2.2.2
def e_ws (M : eI) : List Cond := .code (iN M) (iB M) (iL M) (iT M) :: e_all
abbrev e_rm (d mc ms : Nat) : Room := { frames := d, cells := mc, slots := ms, locals := 64 * d }
abbrev eQ : Type := Option eV → eM → Prop
abbrev eX : Type := String → eM → Prop
/-- HIGHEST_SETTINGS -/
def e_hs : Nat → Int32
  | 0 => 50 | 1 => 200 | _ => 99
def e_sl : List Nat := [6, 4, 8, 4, 6, 5, 7, 6, 5, 3]
def e_sb : List (List Int32) := [[99, 111, 114, 110, 101, 116], [104, 111, 114, 110], [98, 97, 114, 105, 116, 111, 110, 101], [116, 117, 98, 97], [108, 101, 110, 100, 57, 57], [98, 97, 99, 107, 57], [116, 101, 97, 99, 104, 57, 50], [109, 97, 114, 99, 104, 51], [109, 101, 110, 100, 57], [100, 97, 121]]
def e_so : Nat → String
  | 0 => RX4 | 1 => RX4 | 2 => RX4 | 3 => RX4 | _ => RX3
def e_si : Nat → Nat
  | 0 => 391 | 1 => 393 | 2 => 395 | 3 => 397 | 4 => 37 | 5 => 39 | 6 => 41 | 7 => 43 | 8 => 45 | _ => 47
def e_sx : Nat → String
  | 0 => "cornet" | 1 => "horn" | 2 => "baritone" | 3 => "tuba" | 4 => "lend99" | 5 => "back9" | 6 => "teach92" | 7 => "march3" | 8 => "mend9" | _ => "day"
/-- the messages: place in the pool, text -/
def e_xl : List (Nat × String) := [(51, "lungs are 5 to 30"), (62, "there are 10 pupils"), (72, "a kind is 0 to 3"), (77, "there are 10 instruments"), (92, "no such instrument or pupil"), (99, "the loan is not possible"), (108, "no such instrument"), (115, "it is lent to nobody"), (125, "dents are 1 to 9"), (134, "it is lent"), (143, "no such pupil"), (145, "pence are 1 to 999"), (154, "no such setting"), (159, "the value is out of range"), (168, "days are 1 to 30"), (179, "no such pupil or teacher"), (184, "the lesson is not possible"), (197, "no such march"), (202, "no march can be played on this day, or not any more"), (235, "an index is 0 or more"), (245, "no state is saved"), (251, "there is no snapshot"), (253, "what is 0 to 6"), (258, "what is 0 to 5"), (261, "a place is 0 or more"), (266, "no such march or part"), (268, "what is 0 to 3"), (274, "what is 0 to 18"), (288, "no such march or teacher")]
/-- words that are no good words, but stay true -/
def e_fw : List Cond := [.castable "java/lang/IllegalArgumentException" "java/lang/IllegalArgumentException", .castable "java/lang/IllegalStateException" "java/lang/IllegalStateException", .castable "java/lang/IndexOutOfBoundsException" "java/lang/IndexOutOfBoundsException", .methodLinkNest RX0 71 yX2_init RX4, .methodLinkNest RX0 72 yX1_init RX4, .methodLinkNest RX4 33 yX3_init RX4, .methodLinkNest RX0 178 yX4_isTeacher RX4, .declares ⟨"java/lang/RuntimeException", "<init>", "(Ljava/lang/String;)V"⟩, .declares ⟨"java/lang/Exception", "<init>", "(Ljava/lang/String;)V"⟩, .declares ⟨"java/lang/Throwable", "<init>", "(Ljava/lang/String;)V"⟩]
theorem e_fw_tab : ∀ w ∈ e_fw, w.onTables = true := by decide
theorem e_fw_go {s U : State} (hW : s.WarmedH U.vm) (h : ∀ w ∈ e_fw, va_Nw w s) : ∀ w ∈ e_fw, va_Nw w U := by
  intro w hw
  have hz := h w hw
  simp only [e_fw, List.mem_cons, List.not_mem_nil, or_false] at hw
  rcases hw with rfl | rfl | rfl | rfl | rfl | rfl | rfl | rfl | rfl | rfl
  · exact hz.warmC hW
  · exact hz.warmC hW
  · exact hz.warmC hW
  · exact hz.warmM hW
  · exact hz.warmM hW
  · exact hz.warmM hW
  · exact hz.warmM hW
  · exact hz.warmD hW
  · exact hz.warmD hW
  · exact hz.warmD hW
/-- DigitOnes -/
def e_dg (j : Nat) : Int32 := Int32.ofNat (48 + j % 10)
/-- what holds of the start and stays: tables, statics, texts, the script -/
def e_St (G : eG) (U : State) (H : Heap) : Prop :=
  va_K (gD G) e_C (e_TY G) U ∧ va_Z RX0 "HIGHEST_SETTINGS" "[I" (.ref (gF G 22 0)) (e_A G) U H ∧ va_T .int (gF G 22 0) 3 (fun j => .int (e_hs j)) (e_A G) U H ∧
  vk_S 4 e_sl e_sb (gF G 20) (gF G 21) (e_A G) U H ∧ (∀ i, i < 4 → vk_R (e_so i) (e_si i) (e_sx i) (gF G 20 i) U) ∧ (∀ x ∈ e_xl, ∃ a, vk_R RX4 x.1 x.2 a U) ∧
  va_Z RJ0 "COMPACT_STRINGS" "Z" (.int 1) (e_A G) U H ∧ vx_Zq Bundle.tN "UNASSIGNED_STACK" Bundle.steD (e_A G) U H ∧ vx_Zq Bundle.tN "SUPPRESSED_SENTINEL" Bundle.listD (e_A G) U H ∧
  va_X (gF G 23 0) (gn G) (gx G) U H ∧ gF G 23 0 < H.size ∧ ¬ e_A G (gF G 23 0) ∧ (∀ w ∈ e_fw, va_Nw w U) ∧
  va_Nc "java/lang/IllegalArgumentException" "java/lang/IllegalStateException" U ∧ va_Nc "java/lang/IllegalStateException" "java/lang/IndexOutOfBoundsException" U ∧ va_Nc "java/lang/IllegalArgumentException" "java/lang/IndexOutOfBoundsException" U ∧
  va_Z "java/lang/Integer" "DigitOnes" "[B" (.ref (gF G 24 0)) (e_A G) U H ∧ va_T .byte (gF G 24 0) 100 (fun j => .int (e_dg j)) (e_A G) U H ∧
  (va_Z "jdk/internal/util/Preconditions" "SIOOBE_FORMATTER" "Ljava/util/function/BiFunction;" .null (e_A G) U H ∨ va_Z "jdk/internal/util/Preconditions" "SIOOBE_FORMATTER" "Ljava/util/function/BiFunction;" (.ref (gF G 24 1)) (e_A G) U H) ∧ va_AO RX2 U ∧ va_AO RX1 U ∧ va_AO RX0 U
theorem e_St.go {G : eG} {s U : State} {H H1 : Heap} (h : e_St G s H) (hW : s.WarmedH U.vm) (hq : ∀ a : Nat, a < H.size → ¬ e_A G a → H1[a]? = H[a]?) (hz : H.size ≤ H1.size) : e_St G U H1 := by
  obtain ⟨h1, h2, h3, h4, h5, h6, h7, h8, h9, h10, h11, h12, h13, h14, h15, h16, h17, h18, h19, h20, h21, h22⟩ := h
  have hv := hW.alike
  exact ⟨h1.moved hv, (h2.moved hv).kept hq, (va_T.moved hv h3).kept hq, (vk_S.moved hv h4).kept hq, fun i hi => (h5 i hi).warm hW, fun x hx => (h6 x hx).imp fun a z => z.warm hW, (h7.moved hv).kept hq, (h8.moved hv).kept hq, (h9.moved hv).kept hq, (h10.moved hv).kept (hq _ h11 h12), Nat.lt_of_lt_of_le h11 hz, h12, e_fw_go hW h13, h14.moved hv, h15.moved hv, h16.moved hv, (h17.moved hv).kept hq, (va_T.moved hv h18).kept hq, h19.imp (fun z => (z.moved hv).kept hq) (fun z => (z.moved hv).kept hq), h20.moved hv, h21.moved hv, h22.moved hv⟩
theorem e_St.same {G : eG} {s U : State} {H : Heap} (h : e_St G s H) (hv : U.vm = s.vm) : e_St G U H := by
  refine h.go ?_ (fun _ _ _ => rfl) (Nat.le_refl _)
  rw [hv]
  exact State.WarmedH.refl s
def e_Pc (G : eG) (S : eM) (As : List eV) : Array Value → State → Prop := va_Pc (As.map (e_cv G S)) (fun U => e_St G U U.heap ∧ gb G ≤ U.heap.size ∧ e_Wd G S U.heap)
def e_Qc (G : eG) (S : eM) (Q : eQ) : Array Value → State → Outcome → State → Prop := fun _ st oc t => (∃ (r : Option eV) (S2 : eM), oc = .returned (r.map (e_cv G S2)) ∧ Q r S2 ∧ (∀ v, r = some v → e_live S2 v) ∧ e_le S S2 ∧ e_Wd G S2 t.heap) ∧ va_F (e_A G) st t
def e_Xc (G : eG) (S : eM) (X : eX) : String → State → State → Prop := fun E st t => (∃ S2 : eM, X E S2 ∧ e_le S S2 ∧ e_Wd G S2 t.heap) ∧ va_F (e_A G) st t
/-- A METHOD'S CONTRACT: from the memory S and with the arguments As it answers as Q says, or throws as X says; at most mc cells of ms places come -/
def e_Ct (G : eG) (M : eI) (mc ms : Nat) (As : List eV) (S : eM) (Q : eQ) (X : eX) : Prop :=
  (∀ v ∈ As, e_live S v) → e_ok (gr G) S → vx_Met (gl G) (iN M) (e_ws M) (e_rm (iD M) mc ms) (e_Pc G S As) (e_Qc G S Q) (e_Xc G S X) mc ms (e_A G)
/-- where a walk stands: pc, locals, stack, memory, the cells and places that it may still make -/
abbrev eK : Type := Nat → List (Option eV) → List eV → eM → Nat → Nat → Prop
/-- a step: what it owes, in the words of what comes behind it -/
abbrev eTr : Type := eQ → eX → eK → List (Option eV) → List eV → eM → Nat → Nat → Prop
def e_WM (G : eG) (M : eI) (mc ms : Nat) (p : Program) (e : Env) (R : Room) (s : State) (m : MethodId) (args : Array Value) (below : List Frame) (meth : Method) (c : Code) (Q : State → Prop) (S0 : eM) : eK := fun pc lc st S bc bs =>
  ∀ (H : Heap) (locs : List Loc) (ls : Array Slot) (cells slots : Nat), e_Wd G S H → va_S (e_A G) s.heap H locs → e_lv G S ls (iL M) lc → ((∀ w, some w ∈ lc → e_live S w) ∧ ∀ v ∈ st, e_live S v) → e_le S0 S → cells + bc = mc → slots + bs = ms →
    W p (gl G) e R s m args below meth c H locs cells slots Q (F0 m pc ls (st.map (e_cv G S)))
/-- where the machine stands: code, class, words, what stays, the room -/
def e_Cx (G : eG) (own : String) (M : eI) (mc ms : Nat) (p : Program) (R : Room) (s : State) (m : MethodId) (args : Array Value) (meth : Method) (c : Code) : Prop :=
  p.tables.exec = Jvm.exec ∧ c.code = iB M ∧ c.maxLocals = iL M ∧ s.vm.findClass own = some m.cls ∧ (∀ w ∈ e_all, w.before args s = true) ∧ e_St G s s.heap ∧ gb G ≤ s.heap.size ∧ iD M ≤ R.frames ∧ 64 * iD M ≤ R.locals ∧ R.cells = mc ∧ R.slots = ms ∧ ((iN M).name = "<init>" → meth.name = "<init>") ∧ (gl G).stackTraces = false
def e_rop : Option eV → Instr
  | none => .return_
  | some (.inl _) => .ireturn
  | some (.inr (.inl _)) => .lreturn
  | some (.inr (.inr (.inl _))) => .dreturn
  | some (.inr (.inr (.inr _))) => .areturn
def e_rty (M : eI) : Option eV → Prop
  | none => iT M = none
  | some (.inl x) => ∃ ty, iT M = some ty ∧ narrow ty (.int x) = .int x
  | some (.inr (.inl _)) => iT M = some .long
  | some (.inr (.inr (.inl _))) => iT M = some .double
  | some (.inr (.inr (.inr _))) => ∃ ty, iT M = some ty ∧ ((∃ n, ty = .object n) ∨ ∃ t, ty = .array t)
/-- a return does what the method owes -/
def e_Rt (G : eG) (M : eI) (mc ms : Nat) (p : Program) (e : Env) (R : Room) (s : State) (m : MethodId) (args : Array Value) (below : List Frame) (meth : Method) (c : Code) (Q : State → Prop) (S0 : eM) (Qc : eQ) : Prop :=
  ∀ (v : Option eV) (pc : Nat) (S : eM) (H : Heap) (locs : List Loc) (ls : Array Slot) (cells slots : Nat), e_Wd G S H → va_S (e_A G) s.heap H locs → (∀ w, v = some w → e_live S w) → e_le S0 S → cells ≤ mc → slots ≤ ms → Qc v S → decode (iB M) pc = .ok (e_rop v, 1) → e_rty M v →
    W p (gl G) e R s m args below meth c H locs cells slots Q (F0 m pc ls (v.map (e_cv G S)).toList)
/-- what a throw of a new exception with a text rests on -/
def e_thr (M : eI) (cls : String) (ik is ic pc : Nat) (text : String) : Prop :=
  Bundle.fit cls = true ∧ Cond.classLink RX4 ik cls ∈ e_all ∧ Cond.initialized cls ∈ e_all ∧ (is, text) ∈ e_xl ∧ (∀ w ∈ vx_atS RX4 ic cls ["java/lang/RuntimeException", "java/lang/Exception"], w ∈ e_all ∨ w ∈ e_fw) ∧
  decode (iB M) pc = .ok (.new ik, 3) ∧ decode (iB M) (pc + 3) = .ok (.dup, 1) ∧
  ((decode (iB M) (pc + 4) = .ok (.ldc is, 2) ∧ decode (iB M) (pc + 6) = .ok (.invokespecial ic, 3) ∧ decode (iB M) (pc + 9) = .ok (.athrow, 1)) ∨ (decode (iB M) (pc + 4) = .ok (.ldc_w is, 3) ∧ decode (iB M) (pc + 7) = .ok (.invokespecial ic, 3) ∧ decode (iB M) (pc + 10) = .ok (.athrow, 1)))
def e_Th (G : eG) (own : String) (M : eI) (mc ms : Nat) (p : Program) (e : Env) (R : Room) (s : State) (m : MethodId) (args : Array Value) (below : List Frame) (meth : Method) (c : Code) (Q : State → Prop) (S0 : eM) (X : eX) : Prop :=
  ∀ (cls text : String) (ik is ic pc : Nat) (S : eM) (H : Heap) (locs : List Loc) (ls : Array Slot) (rest : List Value) (cells slots : Nat), e_Wd G S H → va_S (e_A G) s.heap H locs → e_le S0 S → cells + 1 ≤ mc → slots + 6 ≤ ms → X cls S → own = RX4 → 10 ≤ iD M → e_thr M cls ik is ic pc text → ls.size = iL M → (rest.map fun v => v.category).sum ≤ 8 →
    W p (gl G) e R s m args below meth c H locs cells slots Q (F0 m pc ls rest)
/-- a step is sound -/
def e_Sd (rf : Nat → Nat → Nat → Option (Nat × Nat)) (own : String) (M : eI) (pc : Nat) (T : eTr) : Prop :=
  ∀ (G : eG) (mc ms : Nat) (p : Program) (e : Env) (R : Room) (s : State) (m : MethodId) (args : Array Value) (below : List Frame) (meth : Method) (c : Code) (Q : State → Prop) (S0 : eM) (Qc : eQ) (Qx : eX), gr G = rf →
    e_Cx G own M mc ms p R s m args meth c → e_Rt G M mc ms p e R s m args below meth c Q S0 Qc → e_Th G own M mc ms p e R s m args below meth c Q S0 Qx →
    ∀ K : eK, (∀ pc lc st S bc bs, K pc lc st S bc bs → e_WM G M mc ms p e R s m args below meth c Q S0 pc lc st S bc bs) →
      ∀ lc st S bc bs, T Qc Qx K lc st S bc bs → e_WM G M mc ms p e R s m args below meth c Q S0 pc lc st S bc bs
-- taking values off the stack
def e_pI (st : List eV) (k : Int32 → List eV → Prop) : Prop := match st with
  | .inl a :: r => k a r
  | _ => False
def e_pL (st : List eV) (k : Int64 → List eV → Prop) : Prop := match st with
  | .inr (.inl a) :: r => k a r
  | _ => False
def e_pD (st : List eV) (k : UInt64 → List eV → Prop) : Prop := match st with
  | .inr (.inr (.inl a)) :: r => k a r
  | _ => False
def e_pO (st : List eV) (k : Option (Nat × Nat) → List eV → Prop) : Prop := match st with
  | .inr (.inr (.inr o)) :: r => k o r
  | _ => False
def e_pQ (st : List eV) (k : Nat → Nat → List eV → Prop) : Prop := match st with
  | .inr (.inr (.inr (some (a, i)))) :: r => k a i r
  | _ => False
def e_p1 (st : List eV) (k : eV → List eV → Prop) : Prop := match st with
  | v :: r => k v r
  | _ => False
theorem e_pI_of {st : List eV} {k : Int32 → List eV → Prop} (h : e_pI st k) : ∃ a r, st = .inl a :: r ∧ k a r := by
  unfold e_pI at h
  split at h
  · exact ⟨_, _, rfl, h⟩
  · exact h.elim
theorem e_pL_of {st : List eV} {k : Int64 → List eV → Prop} (h : e_pL st k) : ∃ a r, st = .inr (.inl a) :: r ∧ k a r := by
  unfold e_pL at h
  split at h
  · exact ⟨_, _, rfl, h⟩
  · exact h.elim
theorem e_pD_of {st : List eV} {k : UInt64 → List eV → Prop} (h : e_pD st k) : ∃ a r, st = .inr (.inr (.inl a)) :: r ∧ k a r := by
  unfold e_pD at h
  split at h
  · exact ⟨_, _, rfl, h⟩
  · exact h.elim
theorem e_pO_of {st : List eV} {k : Option (Nat × Nat) → List eV → Prop} (h : e_pO st k) : ∃ a r, st = .inr (.inr (.inr a)) :: r ∧ k a r := by
  unfold e_pO at h
  split at h
  · exact ⟨_, _, rfl, h⟩
  · exact h.elim
theorem e_pQ_of {st : List eV} {k : Nat → Nat → List eV → Prop} (h : e_pQ st k) : ∃ a i r, st = aR a i :: r ∧ k a i r := by
  unfold e_pQ at h
  split at h
  · exact ⟨_, _, _, rfl, h⟩
  · exact h.elim
theorem e_p1_of {st : List eV} {k : eV → List eV → Prop} (h : e_p1 st k) : ∃ a r, st = a :: r ∧ k a r := by
  unfold e_p1 at h
  split at h
  · exact ⟨_, _, rfl, h⟩
  · exact h.elim
/-- one more value on a stack of live ones -/
theorem e_pv {S : eM} {lc : List (Option eV)} {st : List eV} {v : eV} (h : (∀ w, some w ∈ lc → e_live S w) ∧ ∀ v ∈ st, e_live S v) (hv : e_live S v) : (∀ w, some w ∈ lc → e_live S w) ∧ ∀ w ∈ v :: st, e_live S w :=
  ⟨h.1, fun w hw => (List.mem_cons.mp hw).elim (fun e => e ▸ hv) (h.2 w)⟩
theorem e_pt {S : eM} {lc : List (Option eV)} {st : List eV} {v : eV} (h : (∀ w, some w ∈ lc → e_live S w) ∧ ∀ w ∈ v :: st, e_live S w) : (∀ w, some w ∈ lc → e_live S w) ∧ ∀ w ∈ st, e_live S w := ⟨h.1, fun w hw => h.2 w (List.mem_cons_of_mem _ hw)⟩
theorem e_ph {S : eM} {lc : List (Option eV)} {st : List eV} {v : eV} (h : (∀ w, some w ∈ lc → e_live S w) ∧ ∀ w ∈ v :: st, e_live S w) : e_live S v := h.2 v List.mem_cons_self
section Steps
variable {rf : Nat → Nat → Nat → Option (Nat × Nat)} {own : String} {M : eI} {pc : Nat}
-- a value that is written there
def t_push (v : eV) (n : Nat) (pc : Nat) : eTr := fun _ _ K lc st S bc bs => K (pc + n) lc (v :: st) S bc bs
theorem s_iconst {n : Int} {v : Int32} (d : decode (iB M) pc = .ok (.iconst n, 1)) (hv0 : Int32.ofInt n = v) : e_Sd rf own M pc (t_push (.inl v) 1 pc) := by
  intro G mc ms p e R s m args below meth c Q S0 Qc Qx hG C hR hT K hK lc st S bc bs h H locs ls cells slots hW hS hl hv hle hbc hbs
  exact lv_iconst C.1 C.2.1 d hv0 (hK _ _ _ _ _ _ h H locs ls cells slots hW hS hl (e_pv hv e_live.i) hle hbc hbs)
theorem s_bipush {n : Int} {v : Int32} (d : decode (iB M) pc = .ok (.bipush n, 2)) (hv0 : (Int8.ofInt n).toInt32 = v) : e_Sd rf own M pc (t_push (.inl v) 2 pc) := by
  intro G mc ms p e R s m args below meth c Q S0 Qc Qx hG C hR hT K hK lc st S bc bs h H locs ls cells slots hW hS hl hv hle hbc hbs
  exact lv_bipush C.1 C.2.1 d hv0 (hK _ _ _ _ _ _ h H locs ls cells slots hW hS hl (e_pv hv e_live.i) hle hbc hbs)
theorem s_sipush {n : Int} {v : Int32} (d : decode (iB M) pc = .ok (.sipush n, 3)) (hv0 : (Int16.ofInt n).toInt32 = v) : e_Sd rf own M pc (t_push (.inl v) 3 pc) := by
  intro G mc ms p e R s m args below meth c Q S0 Qc Qx hG C hR hT K hK lc st S bc bs h H locs ls cells slots hW hS hl hv hle hbc hbs
  exact lv_sipush C.1 C.2.1 d hv0 (hK _ _ _ _ _ _ h H locs ls cells slots hW hS hl (e_pv hv e_live.i) hle hbc hbs)
theorem s_lconst {n : Fin 2} {v : Int64} (d : decode (iB M) pc = .ok (.lconst n, 1)) (hv0 : Int64.ofNat (n : Nat) = v) : e_Sd rf own M pc (t_push (.inr (.inl v)) 1 pc) := by
  intro G mc ms p e R s m args below meth c Q S0 Qc Qx hG C hR hT K hK lc st S bc bs h H locs ls cells slots hW hS hl hv hle hbc hbs
  exact lv_lconst C.1 C.2.1 d hv0 (hK _ _ _ _ _ _ h H locs ls cells slots hW hS hl (e_pv hv e_live.l) hle hbc hbs)
theorem s_ldc {i : Nat} {v : Int32} (d : decode (iB M) pc = .ok (.ldc i, 2)) (hw : Cond.constant own i v ∈ e_all) : e_Sd rf own M pc (t_push (.inl v) 2 pc) := by
  intro G mc ms p e R s m args below meth c Q S0 Qc Qx hG C hR hT K hK lc st S bc bs h H locs ls cells slots hW hS hl hv hle hbc hbs
  exact lv_ldc C.1 C.2.1 C.2.2.2.1 (C.2.2.2.2.1 _ hw) d (hK _ _ _ _ _ _ h H locs ls cells slots hW hS hl (e_pv hv e_live.i) hle hbc hbs)
theorem s_ldc2 {i : Nat} {v : Int64} (d : decode (iB M) pc = .ok (.ldc2_w i, 3)) (hw : Cond.constantLong own i v ∈ e_all) : e_Sd rf own M pc (t_push (.inr (.inl v)) 3 pc) := by
  intro G mc ms p e R s m args below meth c Q S0 Qc Qx hG C hR hT K hK lc st S bc bs h H locs ls cells slots hW hS hl hv hle hbc hbs
  exact lv_ldc2 C.1 C.2.1 C.2.2.2.1 (C.2.2.2.2.1 _ hw) d (hK _ _ _ _ _ _ h H locs ls cells slots hW hS hl (e_pv hv e_live.l) hle hbc hbs)
theorem s_ldc2d {i : Nat} {v : UInt64} (d : decode (iB M) pc = .ok (.ldc2_w i, 3)) (hw : Cond.constantDouble own i v ∈ e_all) : e_Sd rf own M pc (t_push (.inr (.inr (.inl v))) 3 pc) := by
  intro G mc ms p e R s m args below meth c Q S0 Qc Qx hG C hR hT K hK lc st S bc bs h H locs ls cells slots hW hS hl hv hle hbc hbs
  exact lv_ldc2d C.1 C.2.1 C.2.2.2.1 (C.2.2.2.2.1 _ hw) d (hK _ _ _ _ _ _ h H locs ls cells slots hW hS hl (e_pv hv e_live.d) hle hbc hbs)
theorem s_null  (d : decode (iB M) pc = .ok (.aconst_null, 1)) : e_Sd rf own M pc (t_push (aO none) 1 pc) := by
  intro G mc ms p e R s m args below meth c Q S0 Qc Qx hG C hR hT K hK lc st S bc bs h H locs ls cells slots hW hS hl hv hle hbc hbs
  exact lv_null C.1 C.2.1 d (hK _ _ _ _ _ _ h H locs ls cells slots hW hS hl (e_pv hv (e_live.o (fun q z => by cases z))) hle hbc hbs)
theorem s_dconst0  (d : decode (iB M) pc = .ok (.dconst 0, 1)) : e_Sd rf own M pc (t_push (.inr (.inr (.inl 0))) 1 pc) := by
  intro G mc ms p e R s m args below meth c Q S0 Qc Qx hG C hR hT K hK lc st S bc bs h H locs ls cells slots hW hS hl hv hle hbc hbs
  exact lv_dconst0 C.1 C.2.1 d (hK _ _ _ _ _ _ h H locs ls cells slots hW hS hl (e_pv hv e_live.d) hle hbc hbs)
theorem s_dconst1  (d : decode (iB M) pc = .ok (.dconst 1, 1)) : e_Sd rf own M pc (t_push (.inr (.inr (.inl 4607182418800017408))) 1 pc) := by
  intro G mc ms p e R s m args below meth c Q S0 Qc Qx hG C hR hT K hK lc st S bc bs h H locs ls cells slots hW hS hl hv hle hbc hbs
  exact lv_dconst1 C.1 C.2.1 d (hK _ _ _ _ _ _ h H locs ls cells slots hW hS hl (e_pv hv e_live.d) hle hbc hbs)
theorem s_ldcS {i n : Nat} (d : decode (iB M) pc = .ok (.ldc n, 2)) (hi : i < 4) (ho : own = e_so i) (hn : n = e_si i) : e_Sd rf own M pc (t_push (aR 20 i) 2 pc) := by
  intro G mc ms p e R s m args below meth c Q S0 Qc Qx hG C hR hT K hK lc st S bc bs h H locs ls cells slots hW hS hl hv hle hbc hbs
  subst ho; subst hn
  obtain ⟨hx, hb, -, ho, -, ⟨-, -, -, -, h5, -⟩, -⟩ := C
  exact va_ldcS hx hb ho (h5 i hi) d (hK _ _ _ _ _ _ h H locs ls cells slots hW hS hl (e_pv hv (e_live.o (fun q z => by cases z; exact Or.inr (Nat.le_refl 20)))) hle hbc hbs)
-- two ints, one int
def t_ii (f : Int32 → Int32 → Int32) (pc : Nat) : eTr := fun _ _ K lc st S bc bs => e_pI st fun b r => e_pI r fun a r => K (pc + 1) lc (.inl (f a b) :: r) S bc bs
theorem s_iadd (d : decode (iB M) pc = .ok (.iadd, 1)) : e_Sd rf own M pc (t_ii (fun a b => a + b) pc) := by
  intro G mc ms p e R s m args below meth c Q S0 Qc Qx hG C hR hT K hK lc st S bc bs h H locs ls cells slots hW hS hl hv hle hbc hbs
  obtain ⟨b, r, rfl, h60⟩ := e_pI_of h
  obtain ⟨a, r, rfl, h61⟩ := e_pI_of h60
  exact lv_iadd C.1 C.2.1 d (hK _ _ _ _ _ _ h61 H locs ls cells slots hW hS hl (e_pv (e_pt (e_pt hv)) e_live.i) hle hbc hbs)
theorem s_isub (d : decode (iB M) pc = .ok (.isub, 1)) : e_Sd rf own M pc (t_ii (fun a b => a - b) pc) := by
  intro G mc ms p e R s m args below meth c Q S0 Qc Qx hG C hR hT K hK lc st S bc bs h H locs ls cells slots hW hS hl hv hle hbc hbs
  obtain ⟨b, r, rfl, h60⟩ := e_pI_of h
  obtain ⟨a, r, rfl, h61⟩ := e_pI_of h60
  exact lv_isub C.1 C.2.1 d (hK _ _ _ _ _ _ h61 H locs ls cells slots hW hS hl (e_pv (e_pt (e_pt hv)) e_live.i) hle hbc hbs)
theorem s_imul (d : decode (iB M) pc = .ok (.imul, 1)) : e_Sd rf own M pc (t_ii (fun a b => a * b) pc) := by
  intro G mc ms p e R s m args below meth c Q S0 Qc Qx hG C hR hT K hK lc st S bc bs h H locs ls cells slots hW hS hl hv hle hbc hbs
  obtain ⟨b, r, rfl, h60⟩ := e_pI_of h
  obtain ⟨a, r, rfl, h61⟩ := e_pI_of h60
  exact lv_imul C.1 C.2.1 d (hK _ _ _ _ _ _ h61 H locs ls cells slots hW hS hl (e_pv (e_pt (e_pt hv)) e_live.i) hle hbc hbs)
theorem s_iand (d : decode (iB M) pc = .ok (.iand, 1)) : e_Sd rf own M pc (t_ii (fun a b => a &&& b) pc) := by
  intro G mc ms p e R s m args below meth c Q S0 Qc Qx hG C hR hT K hK lc st S bc bs h H locs ls cells slots hW hS hl hv hle hbc hbs
  obtain ⟨b, r, rfl, h60⟩ := e_pI_of h
  obtain ⟨a, r, rfl, h61⟩ := e_pI_of h60
  exact lv_iand C.1 C.2.1 d (hK _ _ _ _ _ _ h61 H locs ls cells slots hW hS hl (e_pv (e_pt (e_pt hv)) e_live.i) hle hbc hbs)
theorem s_ior (d : decode (iB M) pc = .ok (.ior, 1)) : e_Sd rf own M pc (t_ii (fun a b => a ||| b) pc) := by
  intro G mc ms p e R s m args below meth c Q S0 Qc Qx hG C hR hT K hK lc st S bc bs h H locs ls cells slots hW hS hl hv hle hbc hbs
  obtain ⟨b, r, rfl, h60⟩ := e_pI_of h
  obtain ⟨a, r, rfl, h61⟩ := e_pI_of h60
  exact lv_ior C.1 C.2.1 d (hK _ _ _ _ _ _ h61 H locs ls cells slots hW hS hl (e_pv (e_pt (e_pt hv)) e_live.i) hle hbc hbs)
theorem s_ishl (d : decode (iB M) pc = .ok (.ishl, 1)) : e_Sd rf own M pc (t_ii (fun a b => a <<< (b &&& 31)) pc) := by
  intro G mc ms p e R s m args below meth c Q S0 Qc Qx hG C hR hT K hK lc st S bc bs h H locs ls cells slots hW hS hl hv hle hbc hbs
  obtain ⟨b, r, rfl, h60⟩ := e_pI_of h
  obtain ⟨a, r, rfl, h61⟩ := e_pI_of h60
  exact lv_ishl C.1 C.2.1 d (hK _ _ _ _ _ _ h61 H locs ls cells slots hW hS hl (e_pv (e_pt (e_pt hv)) e_live.i) hle hbc hbs)
theorem s_ishr (d : decode (iB M) pc = .ok (.ishr, 1)) : e_Sd rf own M pc (t_ii (fun a b => a >>> (b &&& 31)) pc) := by
  intro G mc ms p e R s m args below meth c Q S0 Qc Qx hG C hR hT K hK lc st S bc bs h H locs ls cells slots hW hS hl hv hle hbc hbs
  obtain ⟨b, r, rfl, h60⟩ := e_pI_of h
  obtain ⟨a, r, rfl, h61⟩ := e_pI_of h60
  exact lv_ishr C.1 C.2.1 d (hK _ _ _ _ _ _ h61 H locs ls cells slots hW hS hl (e_pv (e_pt (e_pt hv)) e_live.i) hle hbc hbs)
theorem s_iushr (d : decode (iB M) pc = .ok (.iushr, 1)) : e_Sd rf own M pc (t_ii (fun a b => (a.toUInt32 >>> (b.toUInt32 &&& Int32.toUInt32 31)).toInt32) pc) := by
  intro G mc ms p e R s m args below meth c Q S0 Qc Qx hG C hR hT K hK lc st S bc bs h H locs ls cells slots hW hS hl hv hle hbc hbs
  obtain ⟨b, r, rfl, h60⟩ := e_pI_of h
  obtain ⟨a, r, rfl, h61⟩ := e_pI_of h60
  exact lv_iushr C.1 C.2.1 d rfl (hK _ _ _ _ _ _ h61 H locs ls cells slots hW hS hl (e_pv (e_pt (e_pt hv)) e_live.i) hle hbc hbs)
/-- a division by a number that is not 0 -/
def t_idv (f : Int32 → Int32 → Int32) (pc : Nat) : eTr := fun _ _ K lc st S bc bs => e_pI st fun b r => e_pI r fun a r => ¬ b = 0 ∧ K (pc + 1) lc (.inl (f a b) :: r) S bc bs
theorem s_idiv (d : decode (iB M) pc = .ok (.idiv, 1)) : e_Sd rf own M pc (t_idv (fun a b => a / b) pc) := by
  intro G mc ms p e R s m args below meth c Q S0 Qc Qx hG C hR hT K hK lc st S bc bs h H locs ls cells slots hW hS hl hv hle hbc hbs
  obtain ⟨b, r, rfl, h60⟩ := e_pI_of h
  obtain ⟨a, r, rfl, h61⟩ := e_pI_of h60
  obtain ⟨hne, h62⟩ := h61
  exact lv_idiv C.1 C.2.1 d hne (hK _ _ _ _ _ _ h62 H locs ls cells slots hW hS hl (e_pv (e_pt (e_pt hv)) e_live.i) hle hbc hbs)
theorem s_irem (d : decode (iB M) pc = .ok (.irem, 1)) : e_Sd rf own M pc (t_idv (fun a b => a - a / b * b) pc) := by
  intro G mc ms p e R s m args below meth c Q S0 Qc Qx hG C hR hT K hK lc st S bc bs h H locs ls cells slots hW hS hl hv hle hbc hbs
  obtain ⟨b, r, rfl, h60⟩ := e_pI_of h
  obtain ⟨a, r, rfl, h61⟩ := e_pI_of h60
  obtain ⟨hne, h62⟩ := h61
  exact lv_irem C.1 C.2.1 d hne (hK _ _ _ _ _ _ h62 H locs ls cells slots hW hS hl (e_pv (e_pt (e_pt hv)) e_live.i) hle hbc hbs)
def t_i1 (f : Int32 → eV) (pc : Nat) : eTr := fun _ _ K lc st S bc bs => e_pI st fun a r => K (pc + 1) lc (f a :: r) S bc bs
theorem s_ineg (d : decode (iB M) pc = .ok (.ineg, 1)) : e_Sd rf own M pc (t_i1 (fun a => .inl (-a)) pc) := by
  intro G mc ms p e R s m args below meth c Q S0 Qc Qx hG C hR hT K hK lc st S bc bs h H locs ls cells slots hW hS hl hv hle hbc hbs
  obtain ⟨a, r, rfl, h60⟩ := e_pI_of h
  exact lv_ineg C.1 C.2.1 d (hK _ _ _ _ _ _ h60 H locs ls cells slots hW hS hl (e_pv (e_pt hv) e_live.i) hle hbc hbs)
theorem s_i2l (d : decode (iB M) pc = .ok (.i2l, 1)) : e_Sd rf own M pc (t_i1 (fun a => .inr (.inl a.toInt64)) pc) := by
  intro G mc ms p e R s m args below meth c Q S0 Qc Qx hG C hR hT K hK lc st S bc bs h H locs ls cells slots hW hS hl hv hle hbc hbs
  obtain ⟨a, r, rfl, h60⟩ := e_pI_of h
  exact lv_i2l C.1 C.2.1 d rfl (hK _ _ _ _ _ _ h60 H locs ls cells slots hW hS hl (e_pv (e_pt hv) e_live.l) hle hbc hbs)
theorem s_i2c (d : decode (iB M) pc = .ok (.i2c, 1)) : e_Sd rf own M pc (t_i1 (fun a => .inl (a.toUInt32 % 65536).toInt32) pc) := by
  intro G mc ms p e R s m args below meth c Q S0 Qc Qx hG C hR hT K hK lc st S bc bs h H locs ls cells slots hW hS hl hv hle hbc hbs
  obtain ⟨a, r, rfl, h60⟩ := e_pI_of h
  exact lv_i2c C.1 C.2.1 d rfl (hK _ _ _ _ _ _ h60 H locs ls cells slots hW hS hl (e_pv (e_pt hv) e_live.i) hle hbc hbs)
theorem s_i2b (d : decode (iB M) pc = .ok (.i2b, 1)) : e_Sd rf own M pc (t_i1 (fun a => .inl a.toInt8.toInt32) pc) := by
  intro G mc ms p e R s m args below meth c Q S0 Qc Qx hG C hR hT K hK lc st S bc bs h H locs ls cells slots hW hS hl hv hle hbc hbs
  obtain ⟨a, r, rfl, h60⟩ := e_pI_of h
  exact lv_i2b C.1 C.2.1 d rfl (hK _ _ _ _ _ _ h60 H locs ls cells slots hW hS hl (e_pv (e_pt hv) e_live.i) hle hbc hbs)
theorem s_i2d (d : decode (iB M) pc = .ok (.i2d, 1)) : e_Sd rf own M pc (t_i1 (fun a => .inr (.inr (.inl (FP.i2d a)))) pc) := by
  intro G mc ms p e R s m args below meth c Q S0 Qc Qx hG C hR hT K hK lc st S bc bs h H locs ls cells slots hW hS hl hv hle hbc hbs
  obtain ⟨a, r, rfl, h60⟩ := e_pI_of h
  exact lv_i2d C.1 C.2.1 d (hK _ _ _ _ _ _ h60 H locs ls cells slots hW hS hl (e_pv (e_pt hv) e_live.d) hle hbc hbs)
def t_ll (f : Int64 → Int64 → eV) (pc : Nat) : eTr := fun _ _ K lc st S bc bs => e_pL st fun b r => e_pL r fun a r => K (pc + 1) lc (f a b :: r) S bc bs
theorem s_ladd (d : decode (iB M) pc = .ok (.ladd, 1)) : e_Sd rf own M pc (t_ll (fun a b => .inr (.inl (a + b))) pc) := by
  intro G mc ms p e R s m args below meth c Q S0 Qc Qx hG C hR hT K hK lc st S bc bs h H locs ls cells slots hW hS hl hv hle hbc hbs
  obtain ⟨b, r, rfl, h60⟩ := e_pL_of h
  obtain ⟨a, r, rfl, h61⟩ := e_pL_of h60
  exact lv_ladd C.1 C.2.1 d (hK _ _ _ _ _ _ h61 H locs ls cells slots hW hS hl (e_pv (e_pt (e_pt hv)) e_live.l) hle hbc hbs)
theorem s_lsub (d : decode (iB M) pc = .ok (.lsub, 1)) : e_Sd rf own M pc (t_ll (fun a b => .inr (.inl (a - b))) pc) := by
  intro G mc ms p e R s m args below meth c Q S0 Qc Qx hG C hR hT K hK lc st S bc bs h H locs ls cells slots hW hS hl hv hle hbc hbs
  obtain ⟨b, r, rfl, h60⟩ := e_pL_of h
  obtain ⟨a, r, rfl, h61⟩ := e_pL_of h60
  exact lv_lsub C.1 C.2.1 d (hK _ _ _ _ _ _ h61 H locs ls cells slots hW hS hl (e_pv (e_pt (e_pt hv)) e_live.l) hle hbc hbs)
theorem s_lmul (d : decode (iB M) pc = .ok (.lmul, 1)) : e_Sd rf own M pc (t_ll (fun a b => .inr (.inl (a * b))) pc) := by
  intro G mc ms p e R s m args below meth c Q S0 Qc Qx hG C hR hT K hK lc st S bc bs h H locs ls cells slots hW hS hl hv hle hbc hbs
  obtain ⟨b, r, rfl, h60⟩ := e_pL_of h
  obtain ⟨a, r, rfl, h61⟩ := e_pL_of h60
  exact lv_lmul C.1 C.2.1 d (hK _ _ _ _ _ _ h61 H locs ls cells slots hW hS hl (e_pv (e_pt (e_pt hv)) e_live.l) hle hbc hbs)
theorem s_land (d : decode (iB M) pc = .ok (.land, 1)) : e_Sd rf own M pc (t_ll (fun a b => .inr (.inl (a &&& b))) pc) := by
  intro G mc ms p e R s m args below meth c Q S0 Qc Qx hG C hR hT K hK lc st S bc bs h H locs ls cells slots hW hS hl hv hle hbc hbs
  obtain ⟨b, r, rfl, h60⟩ := e_pL_of h
  obtain ⟨a, r, rfl, h61⟩ := e_pL_of h60
  exact lv_land C.1 C.2.1 d (hK _ _ _ _ _ _ h61 H locs ls cells slots hW hS hl (e_pv (e_pt (e_pt hv)) e_live.l) hle hbc hbs)
theorem s_lcmp (d : decode (iB M) pc = .ok (.lcmp, 1)) : e_Sd rf own M pc (t_ll (fun a b => .inl (lg_cmp a b)) pc) := by
  intro G mc ms p e R s m args below meth c Q S0 Qc Qx hG C hR hT K hK lc st S bc bs h H locs ls cells slots hW hS hl hv hle hbc hbs
  obtain ⟨b, r, rfl, h60⟩ := e_pL_of h
  obtain ⟨a, r, rfl, h61⟩ := e_pL_of h60
  exact W.lcmp C.1 C.2.1 d (hK _ _ _ _ _ _ h61 H locs ls cells slots hW hS hl (e_pv (e_pt (e_pt hv)) e_live.i) hle hbc hbs)
def t_lsh (f : Int64 → Int32 → Int64) (pc : Nat) : eTr := fun _ _ K lc st S bc bs => e_pI st fun b r => e_pL r fun a r => K (pc + 1) lc (.inr (.inl (f a b)) :: r) S bc bs
theorem s_lshl (d : decode (iB M) pc = .ok (.lshl, 1)) : e_Sd rf own M pc (t_lsh (fun a b => a <<< (b.toInt64 &&& 63)) pc) := by
  intro G mc ms p e R s m args below meth c Q S0 Qc Qx hG C hR hT K hK lc st S bc bs h H locs ls cells slots hW hS hl hv hle hbc hbs
  obtain ⟨b, r, rfl, h60⟩ := e_pI_of h
  obtain ⟨a, r, rfl, h61⟩ := e_pL_of h60
  exact lv_lshl C.1 C.2.1 d rfl (hK _ _ _ _ _ _ h61 H locs ls cells slots hW hS hl (e_pv (e_pt (e_pt hv)) e_live.l) hle hbc hbs)
theorem s_lshr (d : decode (iB M) pc = .ok (.lshr, 1)) : e_Sd rf own M pc (t_lsh (fun a b => a >>> (b.toInt64 &&& 63)) pc) := by
  intro G mc ms p e R s m args below meth c Q S0 Qc Qx hG C hR hT K hK lc st S bc bs h H locs ls cells slots hW hS hl hv hle hbc hbs
  obtain ⟨b, r, rfl, h60⟩ := e_pI_of h
  obtain ⟨a, r, rfl, h61⟩ := e_pL_of h60
  exact lv_lshr C.1 C.2.1 d rfl (hK _ _ _ _ _ _ h61 H locs ls cells slots hW hS hl (e_pv (e_pt (e_pt hv)) e_live.l) hle hbc hbs)
def t_l1 (f : Int64 → eV) (pc : Nat) : eTr := fun _ _ K lc st S bc bs => e_pL st fun a r => K (pc + 1) lc (f a :: r) S bc bs
theorem s_l2i (d : decode (iB M) pc = .ok (.l2i, 1)) : e_Sd rf own M pc (t_l1 (fun a => .inl a.toInt32) pc) := by
  intro G mc ms p e R s m args below meth c Q S0 Qc Qx hG C hR hT K hK lc st S bc bs h H locs ls cells slots hW hS hl hv hle hbc hbs
  obtain ⟨a, r, rfl, h60⟩ := e_pL_of h
  exact lv_l2i C.1 C.2.1 d rfl (hK _ _ _ _ _ _ h60 H locs ls cells slots hW hS hl (e_pv (e_pt hv) e_live.i) hle hbc hbs)
def t_dd (f : UInt64 → UInt64 → UInt64) (pc : Nat) : eTr := fun _ _ K lc st S bc bs => e_pD st fun b r => e_pD r fun a r => vf_n64 (f a b) ∧ K (pc + 1) lc (.inr (.inr (.inl (f a b))) :: r) S bc bs
theorem s_dmul (d : decode (iB M) pc = .ok (.dmul, 1)) : e_Sd rf own M pc (t_dd (FP.dmul) pc) := by
  intro G mc ms p e R s m args below meth c Q S0 Qc Qx hG C hR hT K hK lc st S bc bs h H locs ls cells slots hW hS hl hv hle hbc hbs
  obtain ⟨b, r, rfl, h60⟩ := e_pD_of h
  obtain ⟨a, r, rfl, h61⟩ := e_pD_of h60
  obtain ⟨hne, h62⟩ := h61
  exact lv_dmul C.1 C.2.1 d hne (hK _ _ _ _ _ _ h62 H locs ls cells slots hW hS hl (e_pv (e_pt (e_pt hv)) e_live.d) hle hbc hbs)
theorem s_dsub (d : decode (iB M) pc = .ok (.dsub, 1)) : e_Sd rf own M pc (t_dd (FP.dsub) pc) := by
  intro G mc ms p e R s m args below meth c Q S0 Qc Qx hG C hR hT K hK lc st S bc bs h H locs ls cells slots hW hS hl hv hle hbc hbs
  obtain ⟨b, r, rfl, h60⟩ := e_pD_of h
  obtain ⟨a, r, rfl, h61⟩ := e_pD_of h60
  obtain ⟨hne, h62⟩ := h61
  exact lv_dsub C.1 C.2.1 d hne (hK _ _ _ _ _ _ h62 H locs ls cells slots hW hS hl (e_pv (e_pt (e_pt hv)) e_live.d) hle hbc hbs)
theorem s_ddiv (d : decode (iB M) pc = .ok (.ddiv, 1)) : e_Sd rf own M pc (t_dd (FP.ddiv) pc) := by
  intro G mc ms p e R s m args below meth c Q S0 Qc Qx hG C hR hT K hK lc st S bc bs h H locs ls cells slots hW hS hl hv hle hbc hbs
  obtain ⟨b, r, rfl, h60⟩ := e_pD_of h
  obtain ⟨a, r, rfl, h61⟩ := e_pD_of h60
  obtain ⟨hne, h62⟩ := h61
  exact lv_ddiv C.1 C.2.1 d hne (hK _ _ _ _ _ _ h62 H locs ls cells slots hW hS hl (e_pv (e_pt (e_pt hv)) e_live.d) hle hbc hbs)
def t_dc (f : UInt64 → UInt64 → Int32) (pc : Nat) : eTr := fun _ _ K lc st S bc bs => e_pD st fun b r => e_pD r fun a r => K (pc + 1) lc (.inl (f a b) :: r) S bc bs
theorem s_dcmp {op : CmpOp} (d : decode (iB M) pc = .ok (.dcmp op, 1)) : e_Sd rf own M pc (t_dc (fun a b => Op.cmpValue (FP.dcmp a b) op) pc) := by
  intro G mc ms p e R s m args below meth c Q S0 Qc Qx hG C hR hT K hK lc st S bc bs h H locs ls cells slots hW hS hl hv hle hbc hbs
  obtain ⟨b, r, rfl, h60⟩ := e_pD_of h
  obtain ⟨a, r, rfl, h61⟩ := e_pD_of h60
  exact lv_dcmp C.1 C.2.1 d (hK _ _ _ _ _ _ h61 H locs ls cells slots hW hS hl (e_pv (e_pt (e_pt hv)) e_live.i) hle hbc hbs)
def t_d1 (f : UInt64 → eV) (pc : Nat) : eTr := fun _ _ K lc st S bc bs => e_pD st fun a r => K (pc + 1) lc (f a :: r) S bc bs
theorem s_d2l (d : decode (iB M) pc = .ok (.d2l, 1)) : e_Sd rf own M pc (t_d1 (fun a => .inr (.inl (FP.d2l a))) pc) := by
  intro G mc ms p e R s m args below meth c Q S0 Qc Qx hG C hR hT K hK lc st S bc bs h H locs ls cells slots hW hS hl hv hle hbc hbs
  obtain ⟨a, r, rfl, h60⟩ := e_pD_of h
  exact lv_d2l C.1 C.2.1 d (hK _ _ _ _ _ _ h60 H locs ls cells slots hW hS hl (e_pv (e_pt hv) e_live.l) hle hbc hbs)
-- the stack itself
def t_dup (pc : Nat) : eTr := fun _ _ K lc st S bc bs => e_p1 st fun v r => cond (e_c2 v) False (K (pc + 1) lc (v :: v :: r) S bc bs)
theorem s_dup (d : decode (iB M) pc = .ok (.dup, 1)) : e_Sd rf own M pc (t_dup pc) := by
  intro G mc ms p e R s m args below meth c Q S0 Qc Qx hG C hR hT K hK lc st S bc bs h H locs ls cells slots hW hS hl hv hle hbc hbs
  obtain ⟨v, r, rfl, h60⟩ := e_p1_of h
  have hc := e_cat (G := G) (S := S) v
  cases hv2 : e_c2 v with
  | true => rw [hv2] at h60; exact h60.elim
  | false =>
    rw [hv2] at h60 hc
    exact lv_dup C.1 C.2.1 d hc (hK _ _ _ _ _ _ h60 H locs ls cells slots hW hS hl (e_pv hv (e_ph hv)) hle hbc hbs)
def t_pop (pc : Nat) : eTr := fun _ _ K lc st S bc bs => e_p1 st fun v r => cond (e_c2 v) False (K (pc + 1) lc r S bc bs)
theorem s_pop (d : decode (iB M) pc = .ok (.pop, 1)) : e_Sd rf own M pc (t_pop pc) := by
  intro G mc ms p e R s m args below meth c Q S0 Qc Qx hG C hR hT K hK lc st S bc bs h H locs ls cells slots hW hS hl hv hle hbc hbs
  obtain ⟨v, r, rfl, h60⟩ := e_p1_of h
  have hc := e_cat (G := G) (S := S) v
  cases hv2 : e_c2 v with
  | true => rw [hv2] at h60; exact h60.elim
  | false =>
    rw [hv2] at h60 hc
    exact lv_pop C.1 C.2.1 d hc (hK _ _ _ _ _ _ h60 H locs ls cells slots hW hS hl (e_pt hv) hle hbc hbs)
def t_dup2 (pc : Nat) : eTr := fun _ _ K lc st S bc bs => e_pI st fun a r => e_pO r fun o r => K (pc + 1) lc (.inl a :: aO o :: .inl a :: aO o :: r) S bc bs
theorem s_dup2 (d : decode (iB M) pc = .ok (.dup2, 1)) : e_Sd rf own M pc (t_dup2 pc) := by
  intro G mc ms p e R s m args below meth c Q S0 Qc Qx hG C hR hT K hK lc st S bc bs h H locs ls cells slots hW hS hl hv hle hbc hbs
  obtain ⟨a, r, rfl, h60⟩ := e_pI_of h
  obtain ⟨o, r, rfl, h61⟩ := e_pO_of h60
  exact lv_dup2_11 C.1 C.2.1 d rfl (by have := e_cat (G := G) (S := S) (aO o); exact this) (hK _ _ _ _ _ _ h61 H locs ls cells slots hW hS hl (e_pv (e_pv hv (e_ph (e_pt hv))) e_live.i) hle hbc hbs)
-- locals
def e_ldI (lc : List (Option eV)) (i : Nat) (k : Int32 → Prop) : Prop := match lc[i]? with
  | some (some (.inl x)) => k x
  | _ => False
def e_ldL (lc : List (Option eV)) (i : Nat) (k : Int64 → Prop) : Prop := match lc[i]? with
  | some (some (.inr (.inl x))) => k x
  | _ => False
def e_ldD (lc : List (Option eV)) (i : Nat) (k : UInt64 → Prop) : Prop := match lc[i]? with
  | some (some (.inr (.inr (.inl x)))) => k x
  | _ => False
def e_ldO (lc : List (Option eV)) (i : Nat) (k : Option (Nat × Nat) → Prop) : Prop := match lc[i]? with
  | some (some (.inr (.inr (.inr x)))) => k x
  | _ => False
theorem e_ldI_of {lc : List (Option eV)} {i : Nat} {k : Int32 → Prop} (h : e_ldI lc i k) : ∃ x, lc[i]? = some (some (.inl x)) ∧ k x := by
  unfold e_ldI at h
  split at h
  · exact ⟨_, by assumption, h⟩
  · exact h.elim
def t_ldI (i n : Nat) (pc : Nat) : eTr := fun _ _ K lc st S bc bs => e_ldI lc i fun x => K (pc + n) lc (.inl x :: st) S bc bs
theorem s_iload_n {k : Fin 4} {i : Nat} (d : decode (iB M) pc = .ok (.iload_n k, 1)) (hi : (k : Nat) = i) : e_Sd rf own M pc (t_ldI i 1 pc) := by
  intro G mc ms p e R s m args below meth c Q S0 Qc Qx hG C hR hT K hK lc st S bc bs h H locs ls cells slots hW hS hl hv hle hbc hbs
  obtain ⟨x, hx, h60⟩ := e_ldI_of h
  exact lv_iload_n C.1 C.2.1 d hi (hl.2.2 _ _ hx) (hK _ _ _ _ _ _ h60 H locs ls cells slots hW hS hl (e_pv hv e_live.i) hle hbc hbs)
theorem s_iload {i : Nat} (d : decode (iB M) pc = .ok (.iload i, 2)) : e_Sd rf own M pc (t_ldI i 2 pc) := by
  intro G mc ms p e R s m args below meth c Q S0 Qc Qx hG C hR hT K hK lc st S bc bs h H locs ls cells slots hW hS hl hv hle hbc hbs
  obtain ⟨x, hx, h60⟩ := e_ldI_of h
  exact lv_iload C.1 C.2.1 d (hl.2.2 _ _ hx) (hK _ _ _ _ _ _ h60 H locs ls cells slots hW hS hl (e_pv hv e_live.i) hle hbc hbs)
theorem e_ldL_of {lc : List (Option eV)} {i : Nat} {k : Int64 → Prop} (h : e_ldL lc i k) : ∃ x, lc[i]? = some (some (.inr (.inl x))) ∧ k x := by
  unfold e_ldL at h
  split at h
  · exact ⟨_, by assumption, h⟩
  · exact h.elim
def t_ldL (i n : Nat) (pc : Nat) : eTr := fun _ _ K lc st S bc bs => e_ldL lc i fun x => K (pc + n) lc (.inr (.inl x) :: st) S bc bs
theorem s_lload_n {k : Fin 4} {i : Nat} (d : decode (iB M) pc = .ok (.lload_n k, 1)) (hi : (k : Nat) = i) : e_Sd rf own M pc (t_ldL i 1 pc) := by
  intro G mc ms p e R s m args below meth c Q S0 Qc Qx hG C hR hT K hK lc st S bc bs h H locs ls cells slots hW hS hl hv hle hbc hbs
  obtain ⟨x, hx, h60⟩ := e_ldL_of h
  exact lv_lload_n C.1 C.2.1 d hi (hl.2.2 _ _ hx) (hK _ _ _ _ _ _ h60 H locs ls cells slots hW hS hl (e_pv hv e_live.l) hle hbc hbs)
theorem s_lload {i : Nat} (d : decode (iB M) pc = .ok (.lload i, 2)) : e_Sd rf own M pc (t_ldL i 2 pc) := by
  intro G mc ms p e R s m args below meth c Q S0 Qc Qx hG C hR hT K hK lc st S bc bs h H locs ls cells slots hW hS hl hv hle hbc hbs
  obtain ⟨x, hx, h60⟩ := e_ldL_of h
  exact lv_lload C.1 C.2.1 d (hl.2.2 _ _ hx) (hK _ _ _ _ _ _ h60 H locs ls cells slots hW hS hl (e_pv hv e_live.l) hle hbc hbs)
theorem e_ldD_of {lc : List (Option eV)} {i : Nat} {k : UInt64 → Prop} (h : e_ldD lc i k) : ∃ x, lc[i]? = some (some (.inr (.inr (.inl x)))) ∧ k x := by
  unfold e_ldD at h
  split at h
  · exact ⟨_, by assumption, h⟩
  · exact h.elim
def t_ldD (i n : Nat) (pc : Nat) : eTr := fun _ _ K lc st S bc bs => e_ldD lc i fun x => K (pc + n) lc (.inr (.inr (.inl x)) :: st) S bc bs
theorem s_dload_n {k : Fin 4} {i : Nat} (d : decode (iB M) pc = .ok (.dload_n k, 1)) (hi : (k : Nat) = i) : e_Sd rf own M pc (t_ldD i 1 pc) := by
  intro G mc ms p e R s m args below meth c Q S0 Qc Qx hG C hR hT K hK lc st S bc bs h H locs ls cells slots hW hS hl hv hle hbc hbs
  obtain ⟨x, hx, h60⟩ := e_ldD_of h
  exact lv_dload_n C.1 C.2.1 d hi (hl.2.2 _ _ hx) (hK _ _ _ _ _ _ h60 H locs ls cells slots hW hS hl (e_pv hv e_live.d) hle hbc hbs)
theorem s_dload {i : Nat} (d : decode (iB M) pc = .ok (.dload i, 2)) : e_Sd rf own M pc (t_ldD i 2 pc) := by
  intro G mc ms p e R s m args below meth c Q S0 Qc Qx hG C hR hT K hK lc st S bc bs h H locs ls cells slots hW hS hl hv hle hbc hbs
  obtain ⟨x, hx, h60⟩ := e_ldD_of h
  exact lv_dload C.1 C.2.1 d (hl.2.2 _ _ hx) (hK _ _ _ _ _ _ h60 H locs ls cells slots hW hS hl (e_pv hv e_live.d) hle hbc hbs)
theorem e_ldO_of {lc : List (Option eV)} {i : Nat} {k : Option (Nat × Nat) → Prop} (h : e_ldO lc i k) : ∃ x, lc[i]? = some (some (.inr (.inr (.inr x)))) ∧ k x := by
  unfold e_ldO at h
  split at h
  · exact ⟨_, by assumption, h⟩
  · exact h.elim
def t_ldO (i n : Nat) (pc : Nat) : eTr := fun _ _ K lc st S bc bs => e_ldO lc i fun x => K (pc + n) lc (.inr (.inr (.inr x)) :: st) S bc bs
theorem s_aload_n {k : Fin 4} {i : Nat} (d : decode (iB M) pc = .ok (.aload_n k, 1)) (hi : (k : Nat) = i) : e_Sd rf own M pc (t_ldO i 1 pc) := by
  intro G mc ms p e R s m args below meth c Q S0 Qc Qx hG C hR hT K hK lc st S bc bs h H locs ls cells slots hW hS hl hv hle hbc hbs
  obtain ⟨x, hx, h60⟩ := e_ldO_of h
  have hv2 := e_pv hv (hv.1 _ (List.mem_of_getElem? hx))
  cases x with
  | none => exact lv_aload_nN C.1 C.2.1 d hi (hl.2.2 _ _ hx) (hK _ _ _ _ _ _ h60 H locs ls cells slots hW hS hl hv2 hle hbc hbs)
  | some q => exact lv_aload_n C.1 C.2.1 d hi (hl.2.2 _ _ hx) (hK _ _ _ _ _ _ h60 H locs ls cells slots hW hS hl hv2 hle hbc hbs)
theorem s_aload {i : Nat} (d : decode (iB M) pc = .ok (.aload i, 2)) : e_Sd rf own M pc (t_ldO i 2 pc) := by
  intro G mc ms p e R s m args below meth c Q S0 Qc Qx hG C hR hT K hK lc st S bc bs h H locs ls cells slots hW hS hl hv hle hbc hbs
  obtain ⟨x, hx, h60⟩ := e_ldO_of h
  have hv2 := e_pv hv (hv.1 _ (List.mem_of_getElem? hx))
  cases x with
  | none => exact lv_aloadN C.1 C.2.1 d (hl.2.2 _ _ hx) (hK _ _ _ _ _ _ h60 H locs ls cells slots hW hS hl hv2 hle hbc hbs)
  | some q => exact lv_aload C.1 C.2.1 d (hl.2.2 _ _ hx) (hK _ _ _ _ _ _ h60 H locs ls cells slots hW hS hl hv2 hle hbc hbs)
def t_stI (i n : Nat) (pc : Nat) : eTr := fun _ _ K lc st S bc bs => e_pI st fun x r => K (pc + n) (e_sto lc i (.inl x)) r S bc bs
theorem s_istore_n {k : Fin 4} {i : Nat} (d : decode (iB M) pc = .ok (.istore_n k, 1)) (hi : (k : Nat) = i) (hn : i < iL M) : e_Sd rf own M pc (t_stI i 1 pc) := by
  intro G mc ms p e R s m args below meth c Q S0 Qc Qx hG C hR hT K hK lc st S bc bs h H locs ls cells slots hW hS hl hv hle hbc hbs
  obtain ⟨x, r, rfl, h60⟩ := e_pI_of h
  exact lv_istore_n C.1 C.2.1 d hi (e_ll_has hl) hn rfl (fun ls2 h2 => hK _ _ _ _ _ _ h60 H locs ls2 cells slots hW hS (e_lv1 (v := .inl x) hl rfl h2) ⟨e_sto_live hv.1 e_live.i, (e_pt hv).2⟩ hle hbc hbs)
theorem s_istore {i : Nat} (d : decode (iB M) pc = .ok (.istore i, 2)) (hn : i < iL M) : e_Sd rf own M pc (t_stI i 2 pc) := by
  intro G mc ms p e R s m args below meth c Q S0 Qc Qx hG C hR hT K hK lc st S bc bs h H locs ls cells slots hW hS hl hv hle hbc hbs
  obtain ⟨x, r, rfl, h60⟩ := e_pI_of h
  exact lv_istore C.1 C.2.1 d (e_ll_has hl) hn rfl (fun ls2 h2 => hK _ _ _ _ _ _ h60 H locs ls2 cells slots hW hS (e_lv1 (v := .inl x) hl rfl h2) ⟨e_sto_live hv.1 e_live.i, (e_pt hv).2⟩ hle hbc hbs)
def t_stL (i n : Nat) (pc : Nat) : eTr := fun _ _ K lc st S bc bs => e_pL st fun x r => K (pc + n) (e_sto lc i (.inr (.inl x))) r S bc bs
theorem s_lstore_n {k : Fin 4} {i : Nat} (d : decode (iB M) pc = .ok (.lstore_n k, 1)) (hi : (k : Nat) = i) (hn : i + 1 < iL M) : e_Sd rf own M pc (t_stL i 1 pc) := by
  intro G mc ms p e R s m args below meth c Q S0 Qc Qx hG C hR hT K hK lc st S bc bs h H locs ls cells slots hW hS hl hv hle hbc hbs
  obtain ⟨x, r, rfl, h60⟩ := e_pL_of h
  exact lv_lstore_n C.1 C.2.1 d hi (e_ll_has hl) hn rfl (fun ls2 h2 => hK _ _ _ _ _ _ h60 H locs ls2 cells slots hW hS (e_lv2 (v := .inr (.inl x)) hl rfl h2) ⟨e_sto_live hv.1 e_live.l, (e_pt hv).2⟩ hle hbc hbs)
theorem s_lstore {i : Nat} (d : decode (iB M) pc = .ok (.lstore i, 2)) (hn : i + 1 < iL M) : e_Sd rf own M pc (t_stL i 2 pc) := by
  intro G mc ms p e R s m args below meth c Q S0 Qc Qx hG C hR hT K hK lc st S bc bs h H locs ls cells slots hW hS hl hv hle hbc hbs
  obtain ⟨x, r, rfl, h60⟩ := e_pL_of h
  exact lv_lstore C.1 C.2.1 d (e_ll_has hl) hn rfl (fun ls2 h2 => hK _ _ _ _ _ _ h60 H locs ls2 cells slots hW hS (e_lv2 (v := .inr (.inl x)) hl rfl h2) ⟨e_sto_live hv.1 e_live.l, (e_pt hv).2⟩ hle hbc hbs)
def t_stD (i n : Nat) (pc : Nat) : eTr := fun _ _ K lc st S bc bs => e_pD st fun x r => K (pc + n) (e_sto lc i (.inr (.inr (.inl x)))) r S bc bs
theorem s_dstore_n {k : Fin 4} {i : Nat} (d : decode (iB M) pc = .ok (.dstore_n k, 1)) (hi : (k : Nat) = i) (hn : i + 1 < iL M) : e_Sd rf own M pc (t_stD i 1 pc) := by
  intro G mc ms p e R s m args below meth c Q S0 Qc Qx hG C hR hT K hK lc st S bc bs h H locs ls cells slots hW hS hl hv hle hbc hbs
  obtain ⟨x, r, rfl, h60⟩ := e_pD_of h
  exact lv_dstore_n C.1 C.2.1 d hi (e_ll_has hl) hn rfl (fun ls2 h2 => hK _ _ _ _ _ _ h60 H locs ls2 cells slots hW hS (e_lv2 (v := .inr (.inr (.inl x))) hl rfl h2) ⟨e_sto_live hv.1 e_live.d, (e_pt hv).2⟩ hle hbc hbs)
theorem s_dstore {i : Nat} (d : decode (iB M) pc = .ok (.dstore i, 2)) (hn : i + 1 < iL M) : e_Sd rf own M pc (t_stD i 2 pc) := by
  intro G mc ms p e R s m args below meth c Q S0 Qc Qx hG C hR hT K hK lc st S bc bs h H locs ls cells slots hW hS hl hv hle hbc hbs
  obtain ⟨x, r, rfl, h60⟩ := e_pD_of h
  exact lv_dstore C.1 C.2.1 d (e_ll_has hl) hn rfl (fun ls2 h2 => hK _ _ _ _ _ _ h60 H locs ls2 cells slots hW hS (e_lv2 (v := .inr (.inr (.inl x))) hl rfl h2) ⟨e_sto_live hv.1 e_live.d, (e_pt hv).2⟩ hle hbc hbs)
def t_stO (i n : Nat) (pc : Nat) : eTr := fun _ _ K lc st S bc bs => e_pO st fun x r => K (pc + n) (e_sto lc i (.inr (.inr (.inr x)))) r S bc bs
theorem s_astore_n {k : Fin 4} {i : Nat} (d : decode (iB M) pc = .ok (.astore_n k, 1)) (hi : (k : Nat) = i) (hn : i < iL M) : e_Sd rf own M pc (t_stO i 1 pc) := by
  intro G mc ms p e R s m args below meth c Q S0 Qc Qx hG C hR hT K hK lc st S bc bs h H locs ls cells slots hW hS hl hv hle hbc hbs
  obtain ⟨x, r, rfl, h60⟩ := e_pO_of h
  have hx := e_ph hv
  cases x with
  | none => exact lv_astore_nN C.1 C.2.1 d hi (e_ll_has hl) hn rfl (fun ls2 h2 => hK _ _ _ _ _ _ h60 H locs ls2 cells slots hW hS (e_lv1 (v := aO none) hl rfl h2) ⟨e_sto_live hv.1 hx, (e_pt hv).2⟩ hle hbc hbs)
  | some q => exact lv_astore_n C.1 C.2.1 d hi (e_ll_has hl) hn rfl (fun ls2 h2 => hK _ _ _ _ _ _ h60 H locs ls2 cells slots hW hS (e_lv1 (v := aO (some q)) hl rfl h2) ⟨e_sto_live hv.1 hx, (e_pt hv).2⟩ hle hbc hbs)
theorem s_astore {i : Nat} (d : decode (iB M) pc = .ok (.astore i, 2)) (hn : i < iL M) : e_Sd rf own M pc (t_stO i 2 pc) := by
  intro G mc ms p e R s m args below meth c Q S0 Qc Qx hG C hR hT K hK lc st S bc bs h H locs ls cells slots hW hS hl hv hle hbc hbs
  obtain ⟨x, r, rfl, h60⟩ := e_pO_of h
  have hx := e_ph hv
  cases x with
  | none => exact lv_astoreN C.1 C.2.1 d (e_ll_has hl) hn rfl (fun ls2 h2 => hK _ _ _ _ _ _ h60 H locs ls2 cells slots hW hS (e_lv1 (v := aO none) hl rfl h2) ⟨e_sto_live hv.1 hx, (e_pt hv).2⟩ hle hbc hbs)
  | some q => exact lv_astore C.1 C.2.1 d (e_ll_has hl) hn rfl (fun ls2 h2 => hK _ _ _ _ _ _ h60 H locs ls2 cells slots hW hS (e_lv1 (v := aO (some q)) hl rfl h2) ⟨e_sto_live hv.1 hx, (e_pt hv).2⟩ hle hbc hbs)
def t_iinc (i : Nat) (n : Int32) (pc : Nat) : eTr := fun _ _ K lc st S bc bs => e_ldI lc i fun x => K (pc + 3) (e_sto lc i (.inl (x + n))) st S bc bs
theorem s_iinc {i : Nat} {z : Int} {n : Int32} (d : decode (iB M) pc = .ok (.iinc i z, 3)) (hz : Int32.ofInt z = n) (hn : i < iL M) : e_Sd rf own M pc (t_iinc i n pc) := by
  intro G mc ms p e R s m args below meth c Q S0 Qc Qx hG C hR hT K hK lc st S bc bs h H locs ls cells slots hW hS hl hv hle hbc hbs
  obtain ⟨x, hx, h60⟩ := e_ldI_of h
  obtain ⟨k, hk⟩ := List.getElem?_of_mem (e_ll_mem (G := G) (S := S) hx)
  exact lv_iinc (v := x + n) C.1 C.2.1 d (e_ll_has hl) hk (by rw [hz]) hn rfl (fun ls2 h2 => hK _ _ _ _ _ _ h60 H locs ls2 cells slots hW hS (e_lv1 (v := .inl (x + n)) hl rfl h2) ⟨e_sto_live hv.1 e_live.i, hv.2⟩ hle hbc hbs)
-- jumps
def t_goto (tg : Nat) : eTr := fun _ _ K lc st S bc bs => K tg lc st S bc bs
theorem s_goto {off : Int} {tg : Nat} (d : decode (iB M) pc = .ok (.goto off, 3)) (ht : (pc : Int) + off = (tg : Int)) : e_Sd rf own M pc (t_goto tg) := by
  intro G mc ms p e R s m args below meth c Q S0 Qc Qx hG C hR hT K hK lc st S bc bs h H locs ls cells slots hW hS hl hv hle hbc hbs
  exact lv_goto C.1 C.2.1 d ht (hK _ _ _ _ _ _ h H locs ls cells slots hW hS hl hv hle hbc hbs)
def t_if (P : Int32 → Prop) (tg pc : Nat) : eTr := fun _ _ K lc st S bc bs => e_pI st fun a r => (P a → K tg lc r S bc bs) ∧ (¬ P a → K (pc + 3) lc r S bc bs)
def t_ic (P : Int32 → Int32 → Prop) (tg pc : Nat) : eTr := fun _ _ K lc st S bc bs => e_pI st fun b r => e_pI r fun a r => (P a b → K tg lc r S bc bs) ∧ (¬ P a b → K (pc + 3) lc r S bc bs)
/-- .. and the jumps whose words say no: the jump is the second case -/
def t_ifn (P : Int32 → Prop) (tg pc : Nat) : eTr := fun _ _ K lc st S bc bs => e_pI st fun a r => (P a → K (pc + 3) lc r S bc bs) ∧ (¬ P a → K tg lc r S bc bs)
def t_icn (P : Int32 → Int32 → Prop) (tg pc : Nat) : eTr := fun _ _ K lc st S bc bs => e_pI st fun b r => e_pI r fun a r => (P a b → K (pc + 3) lc r S bc bs) ∧ (¬ P a b → K tg lc r S bc bs)
theorem s_if_eq {off : Int} {tg : Nat} (d : decode (iB M) pc = .ok (.ifCond .eq off, 3)) (ht : (pc : Int) + off = (tg : Int)) : e_Sd rf own M pc (t_if (fun a => a = 0) tg pc) := by
  intro G mc ms p e R s m args below meth c Q S0 Qc Qx hG C hR hT K hK lc st S bc bs h H locs ls cells slots hW hS hl hv hle hbc hbs
  obtain ⟨a, r, rfl, h60⟩ := e_pI_of h
  exact lv_if_eq C.1 C.2.1 d ht (fun z => hK _ _ _ _ _ _ (h60.1 z) H locs ls cells slots hW hS hl (e_pt hv) hle hbc hbs) (fun z => hK _ _ _ _ _ _ (h60.2 z) H locs ls cells slots hW hS hl (e_pt hv) hle hbc hbs)
theorem s_if_ne {off : Int} {tg : Nat} (d : decode (iB M) pc = .ok (.ifCond .ne off, 3)) (ht : (pc : Int) + off = (tg : Int)) : e_Sd rf own M pc (t_ifn (fun a => a = 0) tg pc) := by
  intro G mc ms p e R s m args below meth c Q S0 Qc Qx hG C hR hT K hK lc st S bc bs h H locs ls cells slots hW hS hl hv hle hbc hbs
  obtain ⟨a, r, rfl, h60⟩ := e_pI_of h
  exact lv_if_ne C.1 C.2.1 d ht (fun z => hK _ _ _ _ _ _ (h60.2 z) H locs ls cells slots hW hS hl (e_pt hv) hle hbc hbs) (fun z => hK _ _ _ _ _ _ (h60.1 z) H locs ls cells slots hW hS hl (e_pt hv) hle hbc hbs)
theorem s_if_lt {off : Int} {tg : Nat} (d : decode (iB M) pc = .ok (.ifCond .lt off, 3)) (ht : (pc : Int) + off = (tg : Int)) : e_Sd rf own M pc (t_if (fun a => a < 0) tg pc) := by
  intro G mc ms p e R s m args below meth c Q S0 Qc Qx hG C hR hT K hK lc st S bc bs h H locs ls cells slots hW hS hl hv hle hbc hbs
  obtain ⟨a, r, rfl, h60⟩ := e_pI_of h
  exact lv_if_lt C.1 C.2.1 d ht (fun z => hK _ _ _ _ _ _ (h60.1 z) H locs ls cells slots hW hS hl (e_pt hv) hle hbc hbs) (fun z => hK _ _ _ _ _ _ (h60.2 z) H locs ls cells slots hW hS hl (e_pt hv) hle hbc hbs)
theorem s_if_ge {off : Int} {tg : Nat} (d : decode (iB M) pc = .ok (.ifCond .ge off, 3)) (ht : (pc : Int) + off = (tg : Int)) : e_Sd rf own M pc (t_if (fun a => 0 ≤ a) tg pc) := by
  intro G mc ms p e R s m args below meth c Q S0 Qc Qx hG C hR hT K hK lc st S bc bs h H locs ls cells slots hW hS hl hv hle hbc hbs
  obtain ⟨a, r, rfl, h60⟩ := e_pI_of h
  exact lv_if_ge C.1 C.2.1 d ht (fun z => hK _ _ _ _ _ _ (h60.1 z) H locs ls cells slots hW hS hl (e_pt hv) hle hbc hbs) (fun z => hK _ _ _ _ _ _ (h60.2 z) H locs ls cells slots hW hS hl (e_pt hv) hle hbc hbs)
theorem s_if_gt {off : Int} {tg : Nat} (d : decode (iB M) pc = .ok (.ifCond .gt off, 3)) (ht : (pc : Int) + off = (tg : Int)) : e_Sd rf own M pc (t_if (fun a => 0 < a) tg pc) := by
  intro G mc ms p e R s m args below meth c Q S0 Qc Qx hG C hR hT K hK lc st S bc bs h H locs ls cells slots hW hS hl hv hle hbc hbs
  obtain ⟨a, r, rfl, h60⟩ := e_pI_of h
  exact lv_if_gt C.1 C.2.1 d ht (fun z => hK _ _ _ _ _ _ (h60.1 z) H locs ls cells slots hW hS hl (e_pt hv) hle hbc hbs) (fun z => hK _ _ _ _ _ _ (h60.2 z) H locs ls cells slots hW hS hl (e_pt hv) hle hbc hbs)
theorem s_if_le {off : Int} {tg : Nat} (d : decode (iB M) pc = .ok (.ifCond .le off, 3)) (ht : (pc : Int) + off = (tg : Int)) : e_Sd rf own M pc (t_if (fun a => a ≤ 0) tg pc) := by
  intro G mc ms p e R s m args below meth c Q S0 Qc Qx hG C hR hT K hK lc st S bc bs h H locs ls cells slots hW hS hl hv hle hbc hbs
  obtain ⟨a, r, rfl, h60⟩ := e_pI_of h
  exact lv_if_le C.1 C.2.1 d ht (fun z => hK _ _ _ _ _ _ (h60.1 z) H locs ls cells slots hW hS hl (e_pt hv) hle hbc hbs) (fun z => hK _ _ _ _ _ _ (h60.2 z) H locs ls cells slots hW hS hl (e_pt hv) hle hbc hbs)
theorem s_ic_eq {off : Int} {tg : Nat} (d : decode (iB M) pc = .ok (.if_icmp .eq off, 3)) (ht : (pc : Int) + off = (tg : Int)) : e_Sd rf own M pc (t_ic (fun a b => a = b) tg pc) := by
  intro G mc ms p e R s m args below meth c Q S0 Qc Qx hG C hR hT K hK lc st S bc bs h H locs ls cells slots hW hS hl hv hle hbc hbs
  obtain ⟨b, r, rfl, h60⟩ := e_pI_of h
  obtain ⟨a, r, rfl, h61⟩ := e_pI_of h60
  exact lv_icmp_eq C.1 C.2.1 d ht (fun z => hK _ _ _ _ _ _ (h61.1 z) H locs ls cells slots hW hS hl (e_pt (e_pt hv)) hle hbc hbs) (fun z => hK _ _ _ _ _ _ (h61.2 z) H locs ls cells slots hW hS hl (e_pt (e_pt hv)) hle hbc hbs)
theorem s_ic_ne {off : Int} {tg : Nat} (d : decode (iB M) pc = .ok (.if_icmp .ne off, 3)) (ht : (pc : Int) + off = (tg : Int)) : e_Sd rf own M pc (t_icn (fun a b => a = b) tg pc) := by
  intro G mc ms p e R s m args below meth c Q S0 Qc Qx hG C hR hT K hK lc st S bc bs h H locs ls cells slots hW hS hl hv hle hbc hbs
  obtain ⟨b, r, rfl, h60⟩ := e_pI_of h
  obtain ⟨a, r, rfl, h61⟩ := e_pI_of h60
  exact lv_icmp_ne C.1 C.2.1 d ht (fun z => hK _ _ _ _ _ _ (h61.2 z) H locs ls cells slots hW hS hl (e_pt (e_pt hv)) hle hbc hbs) (fun z => hK _ _ _ _ _ _ (h61.1 z) H locs ls cells slots hW hS hl (e_pt (e_pt hv)) hle hbc hbs)
theorem s_ic_lt {off : Int} {tg : Nat} (d : decode (iB M) pc = .ok (.if_icmp .lt off, 3)) (ht : (pc : Int) + off = (tg : Int)) : e_Sd rf own M pc (t_ic (fun a b => a < b) tg pc) := by
  intro G mc ms p e R s m args below meth c Q S0 Qc Qx hG C hR hT K hK lc st S bc bs h H locs ls cells slots hW hS hl hv hle hbc hbs
  obtain ⟨b, r, rfl, h60⟩ := e_pI_of h
  obtain ⟨a, r, rfl, h61⟩ := e_pI_of h60
  exact lv_icmp_lt C.1 C.2.1 d ht (fun z => hK _ _ _ _ _ _ (h61.1 z) H locs ls cells slots hW hS hl (e_pt (e_pt hv)) hle hbc hbs) (fun z => hK _ _ _ _ _ _ (h61.2 z) H locs ls cells slots hW hS hl (e_pt (e_pt hv)) hle hbc hbs)
theorem s_ic_ge {off : Int} {tg : Nat} (d : decode (iB M) pc = .ok (.if_icmp .ge off, 3)) (ht : (pc : Int) + off = (tg : Int)) : e_Sd rf own M pc (t_ic (fun a b => b ≤ a) tg pc) := by
  intro G mc ms p e R s m args below meth c Q S0 Qc Qx hG C hR hT K hK lc st S bc bs h H locs ls cells slots hW hS hl hv hle hbc hbs
  obtain ⟨b, r, rfl, h60⟩ := e_pI_of h
  obtain ⟨a, r, rfl, h61⟩ := e_pI_of h60
  exact lv_icmp_ge C.1 C.2.1 d ht (fun z => hK _ _ _ _ _ _ (h61.1 z) H locs ls cells slots hW hS hl (e_pt (e_pt hv)) hle hbc hbs) (fun z => hK _ _ _ _ _ _ (h61.2 z) H locs ls cells slots hW hS hl (e_pt (e_pt hv)) hle hbc hbs)
theorem s_ic_gt {off : Int} {tg : Nat} (d : decode (iB M) pc = .ok (.if_icmp .gt off, 3)) (ht : (pc : Int) + off = (tg : Int)) : e_Sd rf own M pc (t_ic (fun a b => b < a) tg pc) := by
  intro G mc ms p e R s m args below meth c Q S0 Qc Qx hG C hR hT K hK lc st S bc bs h H locs ls cells slots hW hS hl hv hle hbc hbs
  obtain ⟨b, r, rfl, h60⟩ := e_pI_of h
  obtain ⟨a, r, rfl, h61⟩ := e_pI_of h60
  exact lv_icmp_gt C.1 C.2.1 d ht (fun z => hK _ _ _ _ _ _ (h61.1 z) H locs ls cells slots hW hS hl (e_pt (e_pt hv)) hle hbc hbs) (fun z => hK _ _ _ _ _ _ (h61.2 z) H locs ls cells slots hW hS hl (e_pt (e_pt hv)) hle hbc hbs)
theorem s_ic_le {off : Int} {tg : Nat} (d : decode (iB M) pc = .ok (.if_icmp .le off, 3)) (ht : (pc : Int) + off = (tg : Int)) : e_Sd rf own M pc (t_ic (fun a b => a ≤ b) tg pc) := by
  intro G mc ms p e R s m args below meth c Q S0 Qc Qx hG C hR hT K hK lc st S bc bs h H locs ls cells slots hW hS hl hv hle hbc hbs
  obtain ⟨b, r, rfl, h60⟩ := e_pI_of h
  obtain ⟨a, r, rfl, h61⟩ := e_pI_of h60
  exact lv_icmp_le C.1 C.2.1 d ht (fun z => hK _ _ _ _ _ _ (h61.1 z) H locs ls cells slots hW hS hl (e_pt (e_pt hv)) hle hbc hbs) (fun z => hK _ _ _ _ _ _ (h61.2 z) H locs ls cells slots hW hS hl (e_pt (e_pt hv)) hle hbc hbs)
def t_null (tg pc : Nat) : eTr := fun _ _ K lc st S bc bs => e_pO st fun o r => match o with
  | none => K tg lc r S bc bs
  | some _ => K (pc + 3) lc r S bc bs
theorem s_ifnull {off : Int} {tg : Nat} (d : decode (iB M) pc = .ok (.ifnull off, 3)) (ht : (pc : Int) + off = (tg : Int)) : e_Sd rf own M pc (t_null tg pc) := by
  intro G mc ms p e R s m args below meth c Q S0 Qc Qx hG C hR hT K hK lc st S bc bs h H locs ls cells slots hW hS hl hv hle hbc hbs
  obtain ⟨o, r, rfl, h60⟩ := e_pO_of h
  cases o with
  | none => exact lv_ifnullN C.1 C.2.1 d ht (hK _ _ _ _ _ _ h60 H locs ls cells slots hW hS hl (e_pt hv) hle hbc hbs)
  | some q => exact lv_ifnull C.1 C.2.1 d (hK _ _ _ _ _ _ h60 H locs ls cells slots hW hS hl (e_pt hv) hle hbc hbs)
def t_nonnull (tg pc : Nat) : eTr := fun _ _ K lc st S bc bs => e_pO st fun o r => match o with
  | none => K (pc + 3) lc r S bc bs
  | some _ => K tg lc r S bc bs
theorem s_ifnonnull {off : Int} {tg : Nat} (d : decode (iB M) pc = .ok (.ifnonnull off, 3)) (ht : (pc : Int) + off = (tg : Int)) : e_Sd rf own M pc (t_nonnull tg pc) := by
  intro G mc ms p e R s m args below meth c Q S0 Qc Qx hG C hR hT K hK lc st S bc bs h H locs ls cells slots hW hS hl hv hle hbc hbs
  obtain ⟨o, r, rfl, h60⟩ := e_pO_of h
  cases o with
  | none => exact lv_ifnonnullN C.1 C.2.1 d (hK _ _ _ _ _ _ h60 H locs ls cells slots hW hS hl (e_pt hv) hle hbc hbs)
  | some q => exact lv_ifnonnull C.1 C.2.1 d ht (hK _ _ _ _ _ _ h60 H locs ls cells slots hW hS hl (e_pt hv) hle hbc hbs)
/-- switches: the cases in their order, one behind the other -/
def e_sw (K : Nat → Prop) (x : Int32) (df : Nat) : List (Int32 × Nat) → Prop
  | [] => K df
  | q :: l => (x = q.1 → K q.2) ∧ (¬ x = q.1 → e_sw K x df l)
theorem e_sw_of {K : Nat → Prop} {x : Int32} {df : Nat} : ∀ {l : List (Int32 × Nat)}, e_sw K x df l → (∃ q ∈ l, x = q.1 ∧ K q.2) ∨ ((∀ q ∈ l, ¬ x = q.1) ∧ K df)
  | [], h => Or.inr ⟨fun _ hq => absurd hq List.not_mem_nil, h⟩
  | q :: l, h => by
    by_cases hx : x = q.1
    · exact Or.inl ⟨q, List.mem_cons_self, hx, h.1 hx⟩
    · rcases e_sw_of (h.2 hx) with ⟨q2, h1, h2⟩ | ⟨h1, h2⟩
      · exact Or.inl ⟨q2, List.mem_cons_of_mem _ h1, h2⟩
      · refine Or.inr ⟨fun q2 hq => ?_, h2⟩
        rcases List.mem_cons.mp hq with rfl | hq
        · exact hx
        · exact h1 q2 hq
def t_sw (l : List (Int32 × Nat)) (df : Nat) : eTr := fun _ _ K lc st S bc bs => e_pI st fun x r => e_sw (fun tg => K tg lc r S bc bs) x df l
theorem s_table {dflt lo hi : Int} {offs : Array Int} {len df : Nat} {l : List (Int32 × Nat)} (d : decode (iB M) pc = .ok (.tableswitch dflt lo hi offs, len))
    (h1 : l.all (fun q => decide (lo ≤ q.1.toInt) && decide (q.1.toInt ≤ hi) && decide (offs[(q.1.toInt - lo).toNat]? = some ((q.2 : Int) - (pc : Int)))) = true) (h2 : (List.range (hi - lo + 1).toNat).all (fun i => l.any (fun q => decide (q.1.toInt = lo + (i : Int)))) = true) (hd : (pc : Int) + dflt = (df : Int)) : e_Sd rf own M pc (t_sw l df) := by
  intro G mc ms p e R s m args below meth c Q S0 Qc Qx hG C hR hT K hK lc st S bc bs h H locs ls cells slots hW hS hl hv hle hbc hbs
  obtain ⟨x, r, rfl, h60⟩ := e_pI_of h
  rcases e_sw_of h60 with ⟨q, hq, rfl, h61⟩ | ⟨hn, h61⟩
  · have z := List.all_eq_true.mp h1 q hq
    simp only [Bool.and_eq_true, decide_eq_true_eq] at z
    exact lv_tableIn C.1 C.2.1 d (by omega) (by omega) z.2 (by omega) (hK _ _ _ _ _ _ h61 H locs ls cells slots hW hS hl (e_pt hv) hle hbc hbs)
  · refine lv_tableOut C.1 C.2.1 d ?_ hd (hK _ _ _ _ _ _ h61 H locs ls cells slots hW hS hl (e_pt hv) hle hbc hbs)
    rcases Int.lt_or_le x.toInt lo with z | z
    · exact Or.inl z
    · rcases Int.lt_or_le hi x.toInt with y | y
      · exact Or.inr y
      · exfalso
        have w := List.all_eq_true.mp h2 (x.toInt - lo).toNat (List.mem_range.mpr (by omega))
        obtain ⟨q, hq, hqe⟩ := List.any_eq_true.mp w
        simp only [decide_eq_true_eq] at hqe
        exact hn q hq (Int32.toInt_inj.mp (by omega))
theorem s_lookup {dflt : Int} {ps : Array (Int × Int)} {len df : Nat} {l : List (Int32 × Nat)} (d : decode (iB M) pc = .ok (.lookupswitch dflt ps, len))
    (hp : (ps.toList.zip (ps.toList.drop 1)).all (fun (a, next) => a.1 < next.1) = true) (h1 : l.all (fun q => decide (Op.lookupswitch.offset ps.toList dflt q.1.toInt = (q.2 : Int) - (pc : Int))) = true)
    (h2 : ∀ z : Int, (∀ q ∈ l, ¬ z = q.1.toInt) → Op.lookupswitch.offset ps.toList dflt z = dflt) (hd : (pc : Int) + dflt = (df : Int)) : e_Sd rf own M pc (t_sw l df) := by
  intro G mc ms p e R s m args below meth c Q S0 Qc Qx hG C hR hT K hK lc st S bc bs h H locs ls cells slots hW hS hl hv hle hbc hbs
  obtain ⟨x, r, rfl, h60⟩ := e_pI_of h
  rcases e_sw_of h60 with ⟨q, hq, rfl, h61⟩ | ⟨hn, h61⟩
  · have z := List.all_eq_true.mp h1 q hq
    simp only [decide_eq_true_eq] at z
    exact lv_lookup C.1 C.2.1 d hp z (by omega) (hK _ _ _ _ _ _ h61 H locs ls cells slots hW hS hl (e_pt hv) hle hbc hbs)
  · exact lv_lookup C.1 C.2.1 d hp (h2 _ (fun q hq z => hn q hq (Int32.toInt_inj.mp z))) hd (hK _ _ _ _ _ _ h61 H locs ls cells slots hW hS hl (e_pt hv) hle hbc hbs)
-- ends
def e_nil (r : List eV) (P : Prop) : Prop := match r with
  | [] => P
  | _ => False
theorem e_nil_of {r : List eV} {P : Prop} (h : e_nil r P) : r = [] ∧ P := by
  cases r with
  | nil => exact ⟨rfl, h⟩
  | cons _ _ => exact h.elim
def e_z01 (x : Int32) (P : Prop) : Prop := cond (decide (x = 0)) P (cond (decide (x = 1)) P False)
theorem e_z01_of {x : Int32} {P : Prop} (h : e_z01 x P) : (x = 0 ∨ x = 1) ∧ P := by
  unfold e_z01 at h
  by_cases h0 : x = 0
  · rw [decide_eq_true h0] at h
    exact ⟨Or.inl h0, h⟩
  · rw [decide_eq_false h0] at h
    by_cases h1 : x = 1
    · rw [decide_eq_true h1] at h
      exact ⟨Or.inr h1, h⟩
    · rw [decide_eq_false h1] at h
      exact h.elim
theorem e_z01_mk {x : Int32} {P : Prop} (hx : x = 0 ∨ x = 1) (h : P) : e_z01 x P := by
  rcases hx with rfl | rfl <;> exact h
def t_ret : eTr := fun Qc _ _ _ st S _ _ => e_nil st (Qc none S)
theorem s_ret (d : decode (iB M) pc = .ok (.return_, 1)) (ht : iT M = none) : e_Sd rf own M pc t_ret := by
  intro G mc ms p e R s m args below meth c Q S0 Qc Qx hG C hR hT K hK lc st S bc bs h H locs ls cells slots hW hS hl hv hle hbc hbs
  obtain ⟨e1, h1⟩ := e_nil_of h
  subst e1
  exact hR none pc S H locs ls cells slots hW hS (fun w z => by cases z) hle (by omega) (by omega) h1 d ht
def t_iret (ty : FieldType) : eTr := fun Qc _ _ _ st S _ _ => e_pI st fun x r => e_nil r (narrow ty (.int x) = .int x ∧ Qc (some (.inl x)) S)
theorem s_iret {ty : FieldType} (d : decode (iB M) pc = .ok (.ireturn, 1)) (ht : iT M = some ty) : e_Sd rf own M pc (t_iret ty) := by
  intro G mc ms p e R s m args below meth c Q S0 Qc Qx hG C hR hT K hK lc st S bc bs h H locs ls cells slots hW hS hl hv hle hbc hbs
  obtain ⟨x, r, e1, h1⟩ := e_pI_of h
  subst e1
  obtain ⟨e2, h2⟩ := e_nil_of h1
  subst e2
  exact hR (some (.inl x)) pc S H locs ls cells slots hW hS (fun w z => by cases z; exact e_live.i) hle (by omega) (by omega) h2.2 d ⟨ty, ht, h2.1⟩
/-- an int is never narrowed -/
def t_jret : eTr := fun Qc _ _ _ st S _ _ => e_pI st fun x r => e_nil r (Qc (some (.inl x)) S)
theorem s_jret (d : decode (iB M) pc = .ok (.ireturn, 1)) (ht : iT M = some .int) : e_Sd rf own M pc t_jret := by
  intro G mc ms p e R s m args below meth c Q S0 Qc Qx hG C hR hT K hK lc st S bc bs h H locs ls cells slots hW hS hl hv hle hbc hbs
  obtain ⟨x, r, e1, h1⟩ := e_pI_of h
  subst e1
  obtain ⟨e2, h2⟩ := e_nil_of h1
  subst e2
  exact hR (some (.inl x)) pc S H locs ls cells slots hW hS (fun w z => by cases z; exact e_live.i) hle (by omega) (by omega) h2 d ⟨_, ht, rfl⟩
/-- a boolean is 0 or 1 -/
def t_zret : eTr := fun Qc _ _ _ st S _ _ => e_pI st fun x r => e_nil r (e_z01 x (Qc (some (.inl x)) S))
theorem s_zret (d : decode (iB M) pc = .ok (.ireturn, 1)) (ht : iT M = some .boolean) : e_Sd rf own M pc t_zret := by
  intro G mc ms p e R s m args below meth c Q S0 Qc Qx hG C hR hT K hK lc st S bc bs h H locs ls cells slots hW hS hl hv hle hbc hbs
  obtain ⟨x, r, e1, h1⟩ := e_pI_of h
  subst e1
  obtain ⟨e2, h2⟩ := e_nil_of h1
  subst e2
  obtain ⟨hx, h3⟩ := e_z01_of h2
  have hn : narrow .boolean (.int x) = .int x := by rcases hx with rfl | rfl <;> rfl
  exact hR (some (.inl x)) pc S H locs ls cells slots hW hS (fun w z => by cases z; exact e_live.i) hle (by omega) (by omega) h3 d ⟨_, ht, hn⟩
def t_lret : eTr := fun Qc _ _ _ st S _ _ => e_pL st fun x r => e_nil r (Qc (some (.inr (.inl x))) S)
theorem s_lret (d : decode (iB M) pc = .ok (.lreturn, 1)) (ht : iT M = some .long) : e_Sd rf own M pc t_lret := by
  intro G mc ms p e R s m args below meth c Q S0 Qc Qx hG C hR hT K hK lc st S bc bs h H locs ls cells slots hW hS hl hv hle hbc hbs
  obtain ⟨x, r, e1, h1⟩ := e_pL_of h
  subst e1
  obtain ⟨e2, h2⟩ := e_nil_of h1
  subst e2
  exact hR (some (.inr (.inl x))) pc S H locs ls cells slots hW hS (fun w z => by cases z; exact e_live.l) hle (by omega) (by omega) h2 d ht
def t_dret : eTr := fun Qc _ _ _ st S _ _ => e_pD st fun x r => e_nil r (Qc (some (.inr (.inr (.inl x)))) S)
theorem s_dret (d : decode (iB M) pc = .ok (.dreturn, 1)) (ht : iT M = some .double) : e_Sd rf own M pc t_dret := by
  intro G mc ms p e R s m args below meth c Q S0 Qc Qx hG C hR hT K hK lc st S bc bs h H locs ls cells slots hW hS hl hv hle hbc hbs
  obtain ⟨x, r, e1, h1⟩ := e_pD_of h
  subst e1
  obtain ⟨e2, h2⟩ := e_nil_of h1
  subst e2
  exact hR (some (.inr (.inr (.inl x)))) pc S H locs ls cells slots hW hS (fun w z => by cases z; exact e_live.d) hle (by omega) (by omega) h2 d ht
def t_aret : eTr := fun Qc _ _ _ st S _ _ => e_pO st fun x r => e_nil r (Qc (some (.inr (.inr (.inr x)))) S)
theorem s_aret {ty : FieldType} (d : decode (iB M) pc = .ok (.areturn, 1)) (ht : iT M = some ty) (hr : (∃ n, ty = .object n) ∨ ∃ t, ty = .array t) : e_Sd rf own M pc t_aret := by
  intro G mc ms p e R s m args below meth c Q S0 Qc Qx hG C hR hT K hK lc st S bc bs h H locs ls cells slots hW hS hl hv hle hbc hbs
  obtain ⟨x, r, e1, h1⟩ := e_pO_of h
  subst e1
  obtain ⟨e2, h2⟩ := e_nil_of h1
  subst e2
  exact hR (some (.inr (.inr (.inr x)))) pc S H locs ls cells slots hW hS (fun w z => by cases z; exact e_ph hv) hle (by omega) (by omega) h2 d ⟨ty, ht, hr⟩
/-- a new exception is thrown -/
def t_throw (cls : String) : eTr := fun _ Qx _ _ st S bc bs => st = [] ∧ 1 ≤ bc ∧ 6 ≤ bs ∧ Qx cls S
theorem s_throw {cls text : String} {ik is ic : Nat} (hM : own = RX4 ∧ 10 ≤ iD M) (h : e_thr M cls ik is ic pc text) : e_Sd rf own M pc (t_throw cls) := by
  intro G mc ms p e R s m args below meth c Q S0 Qc Qx hG C hR hT K hK lc st S bc bs h2 H locs ls cells slots hW hS hl hv hle hbc hbs
  obtain ⟨rfl, h3, h4, h5⟩ := h2
  exact hT cls text ik is ic pc S H locs ls [] cells slots hW hS hle (by omega) (by omega) h5 hM.1 hM.2 h hl.1 (by decide)
end Steps
