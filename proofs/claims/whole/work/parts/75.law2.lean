/-! The law's own steps: a handler that puts the exception away. Own work. -/
section Law2
variable {G : eG} {M : eI} {mc ms : Nat} {p : Program} {e : Env} {R : Room} {s : State} {m : MethodId} {args : Array Value} {below : List Frame} {meth : Method} {c : Code} {Q : State → Prop} {S0 : eM} {own : String}
theorem e_hand {k : Fin 4} {tg i bc bs cells slots : Nat} {ls : Array Slot} {lc : List (Option eV)} {S S2 : eM} {H : Heap} {locs : List Loc} {q : Addr} (C : e_Cx G own M mc ms p R s m args meth c) (hl : e_lv G S ls (iL M) lc) (d : decode (iB M) tg = .ok (.astore_n k, 1)) (hi : (k : Nat) = i) (hn : i < iL M) (hW : e_Wd G S2 H) (hS : va_S (e_A G) s.heap H locs) (hle : e_le S0 S2) (hbc : cells + bc = mc) (hbs : slots + bs = ms) (h : e_WM G M mc ms p e R s m args below meth c Q S0 (tg + 1) [] [] S2 bc bs) : W p (gl G) e R s m args below meth c H locs cells slots Q (F0 m tg ls [.ref q]) := by
  have hl0 : e_lv G S2 ls (iL M) [] := ⟨hl.1, hl.2.1, fun j v hj => by cases hj⟩
  exact lv_astore_n C.1 C.2.1 d hi (e_ll_has hl0) hn rfl (fun ls2 h2 => h H locs ls2 cells slots hW hS ⟨h2.1, h2.2.1, fun j v hj => by cases hj⟩ ⟨fun w hw => absurd hw List.not_mem_nil, fun w hw => absurd hw List.not_mem_nil⟩ hle hbc hbs)
end Law2
