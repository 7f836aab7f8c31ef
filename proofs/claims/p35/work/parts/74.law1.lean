/-! The law's own steps: behind a callee that returns or throws. Own work. -/
section Law1
variable {G : eG} {p : Program} {e : Env} {R : Room} {s : State} {m : MethodId} {args : Array Value} {below : List Frame} {meth : Method} {c0 : Code} {H : Heap} {locs : List Loc} {cells slots pc : Nat} {Q : State → Prop}
theorem e_afterX {S : eM} {post : eQ} {X : eX} {a : Array Value} {mc2 ms2 : Nat} {ls : Array Slot} {st0 rest : List Value} (hr : vx_Run p (gl G) e R s m args below meth c0 H locs cells slots mc2 ms2 (F0 m pc ls st0) rest (e_Qc G S post a) (e_Xc G S X) (e_A G)) (hS : va_S (e_A G) s.heap H locs)
    (kx : ∀ (E : String) (ce : Cell) (q : Addr) (S2 : eM) (H1 : Heap) (locs1 : List Loc), X E S2 → e_le S S2 → e_Wd G S2 H1 → va_S (e_A G) s.heap H1 locs1 → H1[q]? = some ce → ce.vm = .none → s.vm.findClass E = some ce.cls → vx_W p (gl G) e R s m args below meth c0 H1 locs1 (cells + mc2) (slots + ms2) Q (F0 m pc ls rest) q)
    (kk : ∀ (r : Option eV) (S2 : eM) (H1 : Heap) (locs1 : List Loc), post r S2 → (∀ v, r = some v → e_live S2 v) → e_le S S2 → e_Wd G S2 H1 → va_S (e_A G) s.heap H1 locs1 → W p (gl G) e R s m args below meth c0 H1 locs1 (cells + mc2) (slots + ms2) Q (F0 m (pc + 3) ls ((r.map (e_cv G S2)).toList ++ rest))) : W p (gl G) e R s m args below meth c0 H locs cells slots Q (F0 m pc ls st0) := by
  intro T hT X0
  rcases hr T hT X0 with ⟨v, st₀, t, T2, L, h0, X2, hL, e1, e2, ⟨⟨r, S2, hv, hq, hlv, hle, hw⟩, hF⟩, st⟩ | ⟨q, st₀, t, T2, L, E, ce, h0, X2, hL, e1, e2, ⟨⟨S2, hx, hle, hw⟩, hF⟩, hce, hcv, hcl, st⟩
  · cases hv
    obtain ⟨k1, k2, k3⟩ := vx_keep h0 e1 hS (fun q _ h => h) (fun q h => h) hL hF
    obtain ⟨t2, a1, b1⟩ := kk r S2 T2.heap (locs ++ L) hq hlv hle (by rw [e1]; exact hw) k3 T2 rfl X2
    exact ⟨t2, st t2 a1, b1⟩
  · obtain ⟨k1, k2, k3⟩ := vx_keep h0 e1 hS (fun q _ h => h) (fun q h => h) hL hF
    obtain ⟨t2, a1, b1⟩ := kx E ce q S2 T2.heap (locs ++ L) hx hle (by rw [e1]; exact hw) k3 (by rw [e1]; exact hce) hcv hcl T2 rfl X2
    exact ⟨t2, st.trans a1, b1⟩
end Law1
