/-! The law's own steps: its script. Own work. -/
section Law0
variable {own : String} {M : eI} {pc : Nat}
/-- a step is sound, under one setting of what stays -/
def e_Sg (G : eG) (own : String) (M : eI) (pc : Nat) (T : eTr) : Prop :=
  ∀ (mc ms : Nat) (p : Program) (e : Env) (R : Room) (s : State) (m : MethodId) (args : Array Value) (below : List Frame) (meth : Method) (c : Code) (Q : State → Prop) (S0 : eM) (Qc : eQ) (Qx : eX),
    e_Cx G own M mc ms p R s m args meth c → e_Rt G M mc ms p e R s m args below meth c Q S0 Qc → e_Th G own M mc ms p e R s m args below meth c Q S0 Qx →
    ∀ K : eK, (∀ pc lc st S bc bs, K pc lc st S bc bs → e_WM G M mc ms p e R s m args below meth c Q S0 pc lc st S bc bs) →
      ∀ lc st S bc bs, T Qc Qx K lc st S bc bs → e_WM G M mc ms p e R s m args below meth c Q S0 pc lc st S bc bs
theorem e_Sg.of {rf : Nat → Nat → Nat → Option (Nat × Nat)} {T : eTr} (h : e_Sd rf own M pc T) {G : eG} (hG : gr G = rf) : e_Sg G own M pc T :=
  fun mc ms p e R s m args below meth c Q S0 Qc Qx => h G mc ms p e R s m args below meth c Q S0 Qc Qx hG
def t_xald (L : Nat) (xs : Nat → Int32) (pc : Nat) : eTr := fun _ _ K lc st S bc bs => e_pI st fun x r => e_pQ r fun k i r => (k = 23 ∧ i = 0) ∧ vp_in x L ∧ K (pc + 1) lc (.inl (xs x.toNatClampNeg) :: r) S bc bs
theorem s_xald {G : eG} (d : decode (iB M) pc = .ok (.iaload, 1)) : e_Sg G own M pc (t_xald (gn G) (gx G) pc) := by
  intro mc ms p e R s m args below meth c0 Q S0 Qc Qx C hR hT K hK lc st S bc bs h H locs ls cells slots hW hS hl hv hle hbc hbs
  obtain ⟨x, r, rfl, h60⟩ := e_pI_of h
  obtain ⟨k, i, r, rfl, h61⟩ := e_pQ_of h60
  obtain ⟨⟨rfl, rfl⟩, hin, h62⟩ := h61
  obtain ⟨-, -, -, -, -, -, -, -, -, h10, h11, h12, -⟩ := C.2.2.2.2.2.1
  exact va_sld C.1 C.2.1 h10 h11 h12 hS hin d (hK _ _ _ _ _ _ h62 H locs ls cells slots hW hS hl (e_pv (e_pt (e_pt hv)) e_live.i) hle hbc hbs)
def t_xlen (L : Nat) (pc : Nat) : eTr := fun _ _ K lc st S bc bs => e_pQ st fun k i r => (k = 23 ∧ i = 0) ∧ K (pc + 1) lc (.inl (Int32.ofNat L) :: r) S bc bs
theorem s_xlen {G : eG} (d : decode (iB M) pc = .ok (.arraylength, 1)) : e_Sg G own M pc (t_xlen (gn G) pc) := by
  intro mc ms p e R s m args below meth c0 Q S0 Qc Qx C hR hT K hK lc st S bc bs h H locs ls cells slots hW hS hl hv hle hbc hbs
  obtain ⟨k, i, r, rfl, h60⟩ := e_pQ_of h
  obtain ⟨⟨rfl, rfl⟩, h61⟩ := h60
  obtain ⟨-, -, -, -, -, -, -, -, -, h10, h11, h12, -⟩ := C.2.2.2.2.2.1
  exact va_slen C.1 C.2.1 h10 h11 h12 hS d (hK _ _ _ _ _ _ h61 H locs ls cells slots hW hS hl (e_pv (e_pt hv) e_live.i) hle hbc hbs)
end Law0
