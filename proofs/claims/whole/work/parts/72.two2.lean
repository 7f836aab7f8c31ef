/-! What walks come to: one call on both sides, 2. Own work. -/
section Two2
variable {S S1 S2 : eM} {v sp : qV} {sv : Nat → qV} {sn ln : Nat} {tk : Bool} {tx : Nat → Int32} {B np ni nl : Nat} {a : Nat → Nat} {x y : Int32}
theorem q_2_append (hY : q_Y S v sv sn sp tk tx ln B) : q_2 2 S v sv sn sp tk tx ln B q_IA q_IS (fun post X => x_X4_append [aR 0 0, aI x] S post X) (fun S1 post => w_X5_append [aR 13 0, aI x] S1 post) := by
  obtain ⟨p, i, l, a, hB, hi, hR⟩ := id hY
  by_cases c : q_appE ln x = 0
  · refine ⟨q_appE ln x, nI (ln + 1), v, sv, sn, sp, tk, upd tx ln x, ln + 1, by rw [c]; decide, fun post X g1 g2 g0 => q_X4_append hB hi hR g1 g2 (fun e S2 f y => g0 e S2 f (y.mono (by omega))), fun z => absurd c z, fun S1 post hM h => q_X5_append hM ⟨fun z => absurd c z, fun e S2 f m t => ?_⟩⟩
    exact h S2 _ f m (by rw [t, e]; rfl) (fun _ => rfl)
  · exact ⟨q_appE ln x, 0, v, sv, sn, sp, tk, tx, ln, by unfold q_appE; repeat (first | decide | apply q_le_c | apply q_le_i), fun post X g1 g2 _ => q_X4_append hB hi hR g1 g2 (fun e => absurd e c), fun _ => hY.mono (by omega), fun S1 post hM h => q_X5_append hM ⟨fun _ S2 f m t => h S2 0 f m t (fun e => absurd e c), fun e => absurd e c⟩⟩
theorem q_2_undo (hY : q_Y S v sv sn sp tk tx ln B) : q_2 1 S v sv sn sp tk tx ln B q_IS q_IS (fun post X => x_X4_undo [aR 0 0] S post X) (fun S1 post => w_X5_undo [aR 13 0] S1 post) := by
  obtain ⟨p, i, l, a, hB, hi, hR⟩ := id hY
  by_cases c : sn = 0
  · exact ⟨1, 0, v, sv, sn, sp, tk, tx, ln, by decide, fun post X g1 _ _ => q_X4_undo hB hi hR (fun _ => g1 rfl) (fun z => absurd z (by omega)), fun _ => hY.mono (by omega), fun S1 post hM h => q_X5_undo hM (fun _ S2 f m t => h S2 0 f m t (fun e => absurd e (by decide))) (fun z => absurd z (by omega))⟩
  · exact ⟨0, nI (sn - 1), q_cp (sv (sn - 1)) v, sv, sn - 1, sp, tk, tx, ln, by decide, fun post X _ _ g0 => q_X4_undo hB hi hR (fun z => absurd z c) (fun _ S2 f y => g0 rfl S2 f (y.mono (by omega))), fun z => absurd rfl z, fun S1 post hM h => q_X5_undo hM (fun z => absurd z c) (fun _ S2 f m t => h S2 _ f m t (fun _ => rfl))⟩
theorem q_2_restore (hY : q_Y S v sv sn sp tk tx ln B) : q_2 1 S v sv sn sp tk tx ln B q_IS q_IS (fun post X => x_X4_restore [aR 0 0] S post X) (fun S1 post => w_X5_restore [aR 13 0] S1 post) := by
  obtain ⟨p, i, l, a, hB, hi, hR⟩ := id hY
  cases tk with
  | false =>
    exact ⟨1, 0, v, sv, sn, sp, false, tx, ln, by decide, fun post X g1 _ _ => q_X4_restore hB hi hR (fun _ => g1 rfl) (fun z => by cases z), fun _ => hY.mono (by omega), fun S1 post hM h => q_X5_restore hM (fun _ S2 f m t => h S2 0 f m t (fun e => absurd e (by decide))) (fun z => by cases z)⟩
  | true =>
    exact ⟨0, sp 3, q_cp sp v, q_sv sv sn v, min sn 5 + 1, sp, true, tx, ln, by decide, fun post X _ _ g0 => q_X4_restore hB hi hR (fun z => by cases z) (fun _ S2 f y => g0 rfl S2 f (y.mono (by omega))), fun z => absurd rfl z, fun S1 post hM h => q_X5_restore hM (fun z => by cases z) (fun _ S2 f m t => h S2 _ f m t (fun _ => rfl))⟩
theorem q_2_work (hY : q_Y S v sv sn sp tk tx ln B) : q_2 1 S v sv sn sp tk tx ln B q_IA q_IA (fun post X => x_X4_work [aR 0 0] S post X) (fun S1 post => w_X5_work [aR 13 0] S1 post) := by
  obtain ⟨p, i, l, a, hB, hi, hR⟩ := id hY
  cases c : (q_rd tx ln (ln + 1) 0).1 with
  | false =>
    exact ⟨1, 0, v, sv, sn, sp, tk, tx, ln, by decide, fun post X g1 _ _ => q_X4_work hB hi hR (fun _ => g1 rfl) (fun z => by rw [c] at z; cases z), fun _ => hY.mono (by omega), fun S1 post hM h => q_X5_work hM hi (fun _ S2 f m t => h S2 0 f m t (fun e => absurd e (by decide))) (fun z => by rw [c] at z; cases z)⟩
  | true =>
    exact ⟨0, _, (q_wk tx ln p i (ln + 1) 0 v 0).1, q_sv sv sn v, min sn 5 + 1, sp, tk, tx, 0, by decide, fun post X _ _ g0 => q_X4_work hB hi hR (fun z => by rw [c] at z; cases z) (fun _ S2 f y => g0 rfl S2 f y), fun z => absurd rfl z, fun S1 post hM h => q_X5_work hM hi (fun z => by rw [c] at z; cases z) (fun _ S2 f m t => h S2 _ f m t (fun _ => rfl))⟩
/-- a call that can't be refused, on both sides -/
def q_1 {α : Type} (f : α → eV) (S : eM) (v : qV) (sv : Nat → qV) (sn : Nat) (sp : qV) (tk : Bool) (tx : Nat → Int32) (ln B : Nat) (wc : eQ → Prop) (w5 : eM → eQ → Prop) : Prop :=
  ∃ (r : α) (sp2 : qV) (tk2 : Bool) (ln2 : Nat),
    (∀ post : eQ, (∀ S2, q_w S S2 → q_Y S2 v sv sn sp2 tk2 tx ln2 (B + 61) → post (some (f r)) S2) → wc post) ∧
    ∀ S1 (post : eQ), q_M S1 v sv sn sp tk tx ln → (∀ S2, q_fm S1 S2 → q_M S2 v sv sn sp2 tk2 tx ln2 → post (some (f r)) S2) → w5 S1 post
theorem q_1_clearBuffer (hY : q_Y S v sv sn sp tk tx ln B) : q_1 aI S v sv sn sp tk tx ln B (fun post => w_X4_clearBuffer [aR 0 0] S post) (fun S1 post => w_X5_clearBuffer [aR 13 0] S1 post) := by
  obtain ⟨p, i, l, a, hB, hi, hR⟩ := id hY
  exact ⟨nI ln, sp, tk, 0, fun post h => q_X4_clearBuffer hB hi hR (fun S2 f y => h S2 f (y.mono (by omega))), fun S1 post hM h => q_X5_clearBuffer hM (fun S2 f m _ => h S2 f m)⟩
theorem q_1_keep (hY : q_Y S v sv sn sp tk tx ln B) : q_1 aI S v sv sn sp tk tx ln B (fun post => w_X4_keep [aR 0 0] S post) (fun S1 post => w_X5_keep [aR 13 0] S1 post) := by
  obtain ⟨p, i, l, a, hB, hi, hR⟩ := id hY
  exact ⟨v 3, v, true, ln, fun post h => q_X4_keep hB hi hR (fun S2 f y => h S2 f (y.mono (by omega))), fun S1 post hM h => q_X5_keep hM (fun S2 f m _ => h S2 f m)⟩
theorem q_1_bestMarch (hY : q_Y S v sv sn sp tk tx ln B) : q_1 aI S v sv sn sp tk tx ln B (fun post => w_X4_bestMarch [aR 0 0] S post) (fun S1 post => w_X5_bestMarch [aR 13 0] S1 post) := by
  obtain ⟨p, i, l, a, hB, hi, hR⟩ := id hY
  exact ⟨nI (q_bs v p 4), sp, tk, ln, fun post h => q_X4_bestMarchY hB hi hR (fun S2 f y => h S2 f (y.mono (by omega))), fun S1 post hM h => q_X5_bestMarch hM hi.ok0 (fun S2 f m _ => h S2 f m)⟩
theorem q_1_played (hY : q_Y S v sv sn sp tk tx ln B) (hB2 : 4 * B < 2 ^ 20) : q_1 aD S v sv sn sp tk tx ln B (fun post => w_X4_played [aR 0 0] S post) (fun S1 post => w_X5_played [aR 13 0] S1 post) := by
  obtain ⟨p, i, l, a, hB, hi, hR⟩ := id hY
  obtain ⟨mm, ss, h6, h7, hs, hm⟩ := hi.2.2.2.2.2.2
  exact ⟨q_shr mm ss, sp, tk, ln, fun post h => q_X4_played hB h6 h7 hs (by omega) (h S q_w.rf (hY.mono (by omega))), fun S1 post hM h => q_X5_played hM h6 h7 hs (by omega) (fun S2 f m _ => h S2 f m)⟩
theorem q_1_digest (hY : q_Y S v sv sn sp tk tx ln B) (hB2 : 4 * B < 2 ^ 20) : q_1 aL S v sv sn sp tk tx ln B (fun post => w_X4_digest [aR 0 0] S post) (fun S1 post => w_X5_digest [aR 13 0] S1 post) := by
  obtain ⟨p, i, l, a, hB, hi, hR⟩ := id hY
  obtain ⟨mm, ss, h6, h7, hs, hm⟩ := hi.2.2.2.2.2.2
  exact ⟨q_dig v p i l sn mm ss tx ln, sp, tk, ln, fun post h => q_X4_digestY hB hi hR h6 h7 hs (by omega) (fun S2 f y => h S2 f (y.mono (by omega))), fun S1 post hM h => q_X5_digest hM hi h6 h7 hs (by omega) (fun S2 f m _ => h S2 f m)⟩
theorem q_1_firstError (hY : q_Y S v sv sn sp tk tx ln B) : q_1 aI S v sv sn sp tk tx ln B (fun post => w_X4_firstError [aR 0 0] S post) (fun S1 post => w_X5_firstError [aR 13 0] S1 post) := by
  obtain ⟨p, i, l, a, hB, hi, hR⟩ := id hY
  exact ⟨nI (q_fe tx ln), sp, tk, ln, fun post h => q_X4_firstError hR (h S q_w.rf (hY.mono (by omega))), fun S1 post hM h => q_X5_firstError hM (fun S2 f m _ => h S2 f m)⟩
end Two2
