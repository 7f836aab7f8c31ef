/-! The law: its loop, by program (wip/whole/q/gen83.py). Own work. -/
section Loop
variable {L : Nat} {xs : Nat → Int32} {post : eQ}
/-- from the loop's head, with d turns to go -/
theorem law_loop (hL : L ≤ 2048) (hp : ∀ S, post (some (aI 1)) S) : ∀ (d k : Nat), k + d = 512 → ∀ (S : eM) (v : qV) (sv : Nat → qV) (sn : Nat) (sp : qV) (tk : Bool) (tx : Nat → Int32) (ln : Nat) (l5 l6 l7 l8 : Option eV) (bc bs : Nat), q_Y S v sv sn sp tk tx ln (61 * k) → q_M S v sv sn sp tk tx ln → 64 * d ≤ bc → 4480 * d ≤ bs → e_Run (tb_L L xs) post e_no 23 (q_lc (nI (4 * k)) l5 l6 l7 l8) [] S bc bs := by
  intro d
  induction d with
  | zero =>
    intro k hk S v sv sn sp tk tx ln l5 l6 l7 l8 bc bs hY hM hb hs
    refine e_walkS (mm_L 0 rfl) (stops := [1869, 180, 1863]) 20 ?_
    refine ⟨⟨rfl, rfl⟩, fun _ => ?_, fun c => absurd ((q_lx hL (by omega)).mpr (by omega)) c⟩
    exact e_walkS (mm_L 33 rfl) (stops := []) 5 (hp S)
  | succ d ih =>
    intro k hk S v sv sn sp tk tx ln l5 l6 l7 l8 bc bs hY hM hb hs
    refine e_walkS (mm_L 0 rfl) (stops := [1869, 1863, 180, 236, 292, 360, 416, 484, 540, 608, 676, 732, 800, 856, 912, 925, 938, 982, 1050, 1094, 1107, 1151, 1219, 1287, 1343, 1423, 1479, 1547, 1615, 1671, 1727, 1740, 1808, 1849]) 20 ?_
    refine ⟨⟨rfl, rfl⟩, fun _ => e_walkS (mm_L 33 rfl) (stops := []) 5 (hp S), fun c => ?_⟩
    have hin : 4 * k + 4 ≤ L := Nat.le_of_not_lt (fun z => c ((q_lx hL (by omega)).mpr z))
    have h0 : vp_in (nI (4 * k)) L := nI_in (by omega) (by omega)
    have e1 : nI (4 * k) + 1 = nI (4 * k + 1) := nI_add _ 1
    have e2 : nI (4 * k) + 2 = nI (4 * k + 2) := nI_add _ 2
    have e3 : nI (4 * k) + 3 = nI (4 * k + 3) := nI_add _ 3
    have e4 : nI (4 * k) + 4 = nI (4 * (k + 1)) := nI_add _ 4
    have h1 : vp_in (nI (4 * k) + 1) L := by rw [e1]; exact nI_in (by omega) (by omega)
    have h2 : vp_in (nI (4 * k) + 2) L := by rw [e2]; exact nI_in (by omega) (by omega)
    have h3 : vp_in (nI (4 * k) + 3) L := by rw [e3]; exact nI_in (by omega) (by omega)
    have hB : 4 * (61 * k) < 2 ^ 20 := by omega
    have hb2 : 64 ≤ bc := by omega
    have hs2 : 4480 ≤ bs := by omega
    have nx : q_nx (e_Run (tb_L L xs) post e_no) (nI (4 * k)) (61 * k) bc bs := by
      intro S2 v2 sv2 sn2 sp2 tk2 tx2 ln2 m5 m6 m7 m8 bc2 bs2 y m g1 g2
      refine e_walkS (mm_L 33 rfl) (stops := [23]) 5 ?_
      show e_Run (tb_L L xs) post e_no 23 (q_lc (nI (4 * k) + 4) m5 m6 m7 m8) [] S2 bc2 bs2
      rw [e4]
      exact ih (k + 1) (by omega) S2 v2 sv2 sn2 sp2 tk2 tx2 ln2 m5 m6 m7 m8 bc2 bs2 y m (by omega) (by omega)
    refine ⟨⟨rfl, rfl⟩, h0, ?_⟩
    exact ⟨fun _ => lc_0 h1 hY hM hb2 hs2 nx, fun _ => ⟨fun _ => lc_1 h1 hY hM hb2 hs2 nx, fun _ => ⟨fun _ => lc_2 h1 h2 hY hM hb2 hs2 nx, fun _ => ⟨fun _ => lc_3 h1 hY hM hb2 hs2 nx, fun _ => ⟨fun _ => lc_4 h1 h2 hY hM hb2 hs2 nx, fun _ => ⟨fun _ => lc_5 h1 hY hM hb2 hs2 nx, fun _ => ⟨fun _ => lc_6 h1 h2 hY hM hb2 hs2 nx, fun _ => ⟨fun _ => lc_7 h1 h2 hY hM hb2 hs2 nx, fun _ => ⟨fun _ => lc_8 h1 hY hM hb2 hs2 nx, fun _ => ⟨fun _ => lc_9 h1 h2 hY hM hb2 hs2 nx, fun _ => ⟨fun _ => lc_10 h1 hY hM hb2 hs2 nx, fun _ => ⟨fun _ => lc_11 h1 hY hM hb2 hs2 nx, fun _ => ⟨fun _ => lc_12 hY hM hb2 hs2 nx, fun _ => ⟨fun _ => lc_13 hY hM hb2 hs2 nx, fun _ => ⟨fun _ => lc_14 hY hM hb2 hs2 nx, fun _ => ⟨fun _ => lc_15 h1 h2 hY hM hb2 hs2 nx, fun _ => ⟨fun _ => lc_16 hY hM hb2 hs2 nx, fun _ => ⟨fun _ => lc_17 hY hM hb2 hs2 nx, fun _ => ⟨fun _ => lc_18 hY hM hb2 hs2 nx, fun _ => ⟨fun _ => lc_19 h1 h2 hY hM hb2 hs2 nx, fun _ => ⟨fun _ => lc_20 h1 h2 hY hM hb2 hs2 nx, fun _ => ⟨fun _ => lc_21 h1 hY hM hb2 hs2 nx, fun _ => ⟨fun _ => lc_22 h1 h2 h3 hY hM hb2 hs2 nx, fun _ => ⟨fun _ => lc_23 h1 hY hM hb2 hs2 nx, fun _ => ⟨fun _ => lc_24 h1 h2 hY hM hb2 hs2 nx, fun _ => ⟨fun _ => lc_25 h1 h2 hY hM hb2 hs2 nx, fun _ => ⟨fun _ => lc_26 h1 hY hM hb2 hs2 nx, fun _ => ⟨fun _ => lc_27 h1 hY hM hb2 hs2 nx, fun _ => ⟨fun _ => lc_28 hY hM hb2 hs2 nx, fun _ => ⟨fun _ => lc_29 h1 h2 hY hM hb2 hs2 nx, fun _ => ⟨fun _ => lc_30 hB hY hM hb2 hs2 nx, fun _ => ⟨fun _ => lc_31 hB hY hM hb2 hs2 nx, fun _ => nx _ _ _ _ _ _ _ _ _ _ _ _ _ _ (hY.mono (by omega)) hM (by omega) (by omega)⟩⟩⟩⟩⟩⟩⟩⟩⟩⟩⟩⟩⟩⟩⟩⟩⟩⟩⟩⟩⟩⟩⟩⟩⟩⟩⟩⟩⟩⟩⟩⟩
end Loop
