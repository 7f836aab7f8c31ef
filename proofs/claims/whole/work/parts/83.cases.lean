/-! The law: its cases, by program (wip/whole/q/gen83.py). Own work. -/
section Cases
variable {L : Nat} {xs : Nat → Int32} {post : eQ} {S : eM} {v sp : qV} {sv : Nat → qV} {sn ln : Nat} {tk : Bool} {tx : Nat → Int32} {B bc bs : Nat} {i : Int32} {l5 l6 l7 l8 : Option eV}
theorem q_3_pupil {x : Int32} {p : eQ} (hY : q_Y S v sv sn sp tk tx ln B) (hM : q_M S v sv sn sp tk tx ln) (ht : q_th S B (fun S1 post => w_X5_pupil [aR 13 0, aI x] S1 post) p) : w_L_pupil [aR 0 0, aI x, aR 15 0] S p := q_L_pupil (fun P X g1 g2 g0 => q_2_run (q_2_pupil hY) hM (by decide) ht P X g1 (fun _ => g2) g0)
theorem lc_0 (h1 : vp_in (i + 1) L) (hY : q_Y S v sv sn sp tk tx ln B) (hM : q_M S v sv sn sp tk tx ln) (hb : 64 ≤ bc) (hs : 4480 ≤ bs) (nx : q_nx (e_Run (tb_L L xs) post e_no) i B bc bs) : e_Run (tb_L L xs) post e_no 180 (q_lc i l5 l6 l7 l8) [] S bc bs := by
  refine e_walkS (mm_L 1 rfl) (stops := [191]) 40 ?_
  refine ⟨⟨rfl, rfl⟩, h1, by omega, by omega, q_3_pupil hY hM (fun e S2 r v2 sv2 sn2 sp2 tk2 tx2 ln2 he hY2 hr h5 => ?_)⟩
  show e_Run (tb_L L xs) post e_no 191 (q_lc i l5 l6 l7 l8) [aI (nI e)] S2 (bc - 1) (bs - 6)
  refine e_walkS (mm_L 1 rfl) (stops := [203]) 40 ?_
  refine ⟨⟨rfl, rfl⟩, h1, h5 _ (fun S3 r2 f m t hr2 => ?_)⟩
  show e_Run (tb_L L xs) post e_no 203 (q_lc i (some (aI (nI e))) l6 l7 l8) [aI r2] S3 (bc - 1) (bs - 6)
  refine e_walkS (mm_L 1 rfl) (stops := [209]) 40 ?_
  refine q_X5_thrown t ?_
  show e_Run (tb_L L xs) post e_no 209 (q_lc i (some (aI (nI e))) (some (aI r2)) l7 l8) [aI (nI e)] S3 (bc - 1) (bs - 6)
  refine e_walkS (mm_L 1 rfl) (stops := [1863]) 40 ?_
  exact ⟨fun _ => ⟨fun z => ⟨e_in15, fun _ => nx _ _ _ _ _ _ _ _ _ _ _ _ _ _ (hY2.fm f) m (by omega) (by omega), fun hc => absurd (q_cmp0 (((congrFun (f.2.2 15 0 (by decide)) 0).trans (hr (q_e0 he z))).trans (by rw [hr2 (q_e0 he z)]))) hc⟩, fun _ => nx _ _ _ _ _ _ _ _ _ _ _ _ _ _ (hY2.fm f) m (by omega) (by omega)⟩, fun hc => absurd rfl hc⟩
theorem q_3_instrument {x : Int32} {p : eQ} (hY : q_Y S v sv sn sp tk tx ln B) (hM : q_M S v sv sn sp tk tx ln) (ht : q_th S B (fun S1 post => w_X5_instrument [aR 13 0, aI x] S1 post) p) : w_L_instrument [aR 0 0, aI x, aR 15 0] S p := q_L_instrument (fun P X g1 g2 g0 => q_2_run (q_2_instrument hY) hM (by decide) ht P X g1 (fun _ => g2) g0)
theorem lc_1 (h1 : vp_in (i + 1) L) (hY : q_Y S v sv sn sp tk tx ln B) (hM : q_M S v sv sn sp tk tx ln) (hb : 64 ≤ bc) (hs : 4480 ≤ bs) (nx : q_nx (e_Run (tb_L L xs) post e_no) i B bc bs) : e_Run (tb_L L xs) post e_no 236 (q_lc i l5 l6 l7 l8) [] S bc bs := by
  refine e_walkS (mm_L 2 rfl) (stops := [247]) 40 ?_
  refine ⟨⟨rfl, rfl⟩, h1, by omega, by omega, q_3_instrument hY hM (fun e S2 r v2 sv2 sn2 sp2 tk2 tx2 ln2 he hY2 hr h5 => ?_)⟩
  show e_Run (tb_L L xs) post e_no 247 (q_lc i l5 l6 l7 l8) [aI (nI e)] S2 (bc - 1) (bs - 6)
  refine e_walkS (mm_L 2 rfl) (stops := [259]) 40 ?_
  refine ⟨⟨rfl, rfl⟩, h1, h5 _ (fun S3 r2 f m t hr2 => ?_)⟩
  show e_Run (tb_L L xs) post e_no 259 (q_lc i (some (aI (nI e))) l6 l7 l8) [aI r2] S3 (bc - 1) (bs - 6)
  refine e_walkS (mm_L 2 rfl) (stops := [265]) 40 ?_
  refine q_X5_thrown t ?_
  show e_Run (tb_L L xs) post e_no 265 (q_lc i (some (aI (nI e))) (some (aI r2)) l7 l8) [aI (nI e)] S3 (bc - 1) (bs - 6)
  refine e_walkS (mm_L 2 rfl) (stops := [1863]) 40 ?_
  exact ⟨fun _ => ⟨fun z => ⟨e_in15, fun _ => nx _ _ _ _ _ _ _ _ _ _ _ _ _ _ (hY2.fm f) m (by omega) (by omega), fun hc => absurd (q_cmp0 (((congrFun (f.2.2 15 0 (by decide)) 0).trans (hr (q_e0 he z))).trans (by rw [hr2 (q_e0 he z)]))) hc⟩, fun _ => nx _ _ _ _ _ _ _ _ _ _ _ _ _ _ (hY2.fm f) m (by omega) (by omega)⟩, fun hc => absurd rfl hc⟩
theorem q_3_lend {x y : Int32} {p : eQ} (hY : q_Y S v sv sn sp tk tx ln B) (hM : q_M S v sv sn sp tk tx ln) (ht : q_th S B (fun S1 post => w_X5_lend [aR 13 0, aI x, aI y] S1 post) p) : w_L_lend [aR 0 0, aI x, aI y, aR 15 0] S p := q_L_lend (fun P X g1 g2 g0 => q_2_run (q_2_lend hY) hM (by decide) ht P X g1 (fun _ => g2) g0)
theorem lc_2 (h1 : vp_in (i + 1) L) (h2 : vp_in (i + 2) L) (hY : q_Y S v sv sn sp tk tx ln B) (hM : q_M S v sv sn sp tk tx ln) (hb : 64 ≤ bc) (hs : 4480 ≤ bs) (nx : q_nx (e_Run (tb_L L xs) post e_no) i B bc bs) : e_Run (tb_L L xs) post e_no 292 (q_lc i l5 l6 l7 l8) [] S bc bs := by
  refine e_walkS (mm_L 3 rfl) (stops := [309]) 40 ?_
  refine ⟨⟨rfl, rfl⟩, h1, ⟨rfl, rfl⟩, h2, by omega, by omega, q_3_lend hY hM (fun e S2 r v2 sv2 sn2 sp2 tk2 tx2 ln2 he hY2 hr h5 => ?_)⟩
  show e_Run (tb_L L xs) post e_no 309 (q_lc i l5 l6 l7 l8) [aI (nI e)] S2 (bc - 1) (bs - 6)
  refine e_walkS (mm_L 3 rfl) (stops := [327]) 40 ?_
  refine ⟨⟨rfl, rfl⟩, h1, ⟨rfl, rfl⟩, h2, h5 _ (fun S3 r2 f m t hr2 => ?_)⟩
  show e_Run (tb_L L xs) post e_no 327 (q_lc i (some (aI (nI e))) l6 l7 l8) [aI r2] S3 (bc - 1) (bs - 6)
  refine e_walkS (mm_L 3 rfl) (stops := [333]) 40 ?_
  refine q_X5_thrown t ?_
  show e_Run (tb_L L xs) post e_no 333 (q_lc i (some (aI (nI e))) (some (aI r2)) l7 l8) [aI (nI e)] S3 (bc - 1) (bs - 6)
  refine e_walkS (mm_L 3 rfl) (stops := [1863]) 40 ?_
  exact ⟨fun _ => ⟨fun z => ⟨e_in15, fun _ => nx _ _ _ _ _ _ _ _ _ _ _ _ _ _ (hY2.fm f) m (by omega) (by omega), fun hc => absurd (q_cmp0 (((congrFun (f.2.2 15 0 (by decide)) 0).trans (hr (q_e0 he z))).trans (by rw [hr2 (q_e0 he z)]))) hc⟩, fun _ => nx _ _ _ _ _ _ _ _ _ _ _ _ _ _ (hY2.fm f) m (by omega) (by omega)⟩, fun hc => absurd rfl hc⟩
theorem q_3_back {x : Int32} {p : eQ} (hY : q_Y S v sv sn sp tk tx ln B) (hM : q_M S v sv sn sp tk tx ln) (ht : q_th S B (fun S1 post => w_X5_back [aR 13 0, aI x] S1 post) p) : w_L_back [aR 0 0, aI x, aR 15 0] S p := q_L_back (fun P X g1 g2 g0 => q_2_run (q_2_back hY) hM (by decide) ht P X g1 (fun _ => g2) g0)
theorem lc_3 (h1 : vp_in (i + 1) L) (hY : q_Y S v sv sn sp tk tx ln B) (hM : q_M S v sv sn sp tk tx ln) (hb : 64 ≤ bc) (hs : 4480 ≤ bs) (nx : q_nx (e_Run (tb_L L xs) post e_no) i B bc bs) : e_Run (tb_L L xs) post e_no 360 (q_lc i l5 l6 l7 l8) [] S bc bs := by
  refine e_walkS (mm_L 4 rfl) (stops := [371]) 40 ?_
  refine ⟨⟨rfl, rfl⟩, h1, by omega, by omega, q_3_back hY hM (fun e S2 r v2 sv2 sn2 sp2 tk2 tx2 ln2 he hY2 hr h5 => ?_)⟩
  show e_Run (tb_L L xs) post e_no 371 (q_lc i l5 l6 l7 l8) [aI (nI e)] S2 (bc - 1) (bs - 6)
  refine e_walkS (mm_L 4 rfl) (stops := [383]) 40 ?_
  refine ⟨⟨rfl, rfl⟩, h1, h5 _ (fun S3 r2 f m t hr2 => ?_)⟩
  show e_Run (tb_L L xs) post e_no 383 (q_lc i (some (aI (nI e))) l6 l7 l8) [aI r2] S3 (bc - 1) (bs - 6)
  refine e_walkS (mm_L 4 rfl) (stops := [389]) 40 ?_
  refine q_X5_thrown t ?_
  show e_Run (tb_L L xs) post e_no 389 (q_lc i (some (aI (nI e))) (some (aI r2)) l7 l8) [aI (nI e)] S3 (bc - 1) (bs - 6)
  refine e_walkS (mm_L 4 rfl) (stops := [1863]) 40 ?_
  exact ⟨fun _ => ⟨fun z => ⟨e_in15, fun _ => nx _ _ _ _ _ _ _ _ _ _ _ _ _ _ (hY2.fm f) m (by omega) (by omega), fun hc => absurd (q_cmp0 (((congrFun (f.2.2 15 0 (by decide)) 0).trans (hr (q_e0 he z))).trans (by rw [hr2 (q_e0 he z)]))) hc⟩, fun _ => nx _ _ _ _ _ _ _ _ _ _ _ _ _ _ (hY2.fm f) m (by omega) (by omega)⟩, fun hc => absurd rfl hc⟩
theorem q_3_dent {x y : Int32} {p : eQ} (hY : q_Y S v sv sn sp tk tx ln B) (hM : q_M S v sv sn sp tk tx ln) (ht : q_th S B (fun S1 post => w_X5_dent [aR 13 0, aI x, aI y] S1 post) p) : w_L_dent [aR 0 0, aI x, aI y, aR 15 0] S p := q_L_dent (fun P X g1 g2 g0 => q_2_run (q_2_dent hY) hM (by decide) ht P X g1 (fun _ => g2) g0)
theorem lc_4 (h1 : vp_in (i + 1) L) (h2 : vp_in (i + 2) L) (hY : q_Y S v sv sn sp tk tx ln B) (hM : q_M S v sv sn sp tk tx ln) (hb : 64 ≤ bc) (hs : 4480 ≤ bs) (nx : q_nx (e_Run (tb_L L xs) post e_no) i B bc bs) : e_Run (tb_L L xs) post e_no 416 (q_lc i l5 l6 l7 l8) [] S bc bs := by
  refine e_walkS (mm_L 5 rfl) (stops := [433]) 40 ?_
  refine ⟨⟨rfl, rfl⟩, h1, ⟨rfl, rfl⟩, h2, by omega, by omega, q_3_dent hY hM (fun e S2 r v2 sv2 sn2 sp2 tk2 tx2 ln2 he hY2 hr h5 => ?_)⟩
  show e_Run (tb_L L xs) post e_no 433 (q_lc i l5 l6 l7 l8) [aI (nI e)] S2 (bc - 1) (bs - 6)
  refine e_walkS (mm_L 5 rfl) (stops := [451]) 40 ?_
  refine ⟨⟨rfl, rfl⟩, h1, ⟨rfl, rfl⟩, h2, h5 _ (fun S3 r2 f m t hr2 => ?_)⟩
  show e_Run (tb_L L xs) post e_no 451 (q_lc i (some (aI (nI e))) l6 l7 l8) [aI r2] S3 (bc - 1) (bs - 6)
  refine e_walkS (mm_L 5 rfl) (stops := [457]) 40 ?_
  refine q_X5_thrown t ?_
  show e_Run (tb_L L xs) post e_no 457 (q_lc i (some (aI (nI e))) (some (aI r2)) l7 l8) [aI (nI e)] S3 (bc - 1) (bs - 6)
  refine e_walkS (mm_L 5 rfl) (stops := [1863]) 40 ?_
  exact ⟨fun _ => ⟨fun z => ⟨e_in15, fun _ => nx _ _ _ _ _ _ _ _ _ _ _ _ _ _ (hY2.fm f) m (by omega) (by omega), fun hc => absurd (q_cmp0 (((congrFun (f.2.2 15 0 (by decide)) 0).trans (hr (q_e0 he z))).trans (by rw [hr2 (q_e0 he z)]))) hc⟩, fun _ => nx _ _ _ _ _ _ _ _ _ _ _ _ _ _ (hY2.fm f) m (by omega) (by omega)⟩, fun hc => absurd rfl hc⟩
theorem q_3_mend {x : Int32} {p : eQ} (hY : q_Y S v sv sn sp tk tx ln B) (hM : q_M S v sv sn sp tk tx ln) (ht : q_th S B (fun S1 post => w_X5_mend [aR 13 0, aI x] S1 post) p) : w_L_mend [aR 0 0, aI x, aR 15 0] S p := q_L_mend (fun P X g1 g2 g0 => q_2_run (q_2_mend hY) hM (by decide) ht P X g1 (fun _ => g2) g0)
theorem lc_5 (h1 : vp_in (i + 1) L) (hY : q_Y S v sv sn sp tk tx ln B) (hM : q_M S v sv sn sp tk tx ln) (hb : 64 ≤ bc) (hs : 4480 ≤ bs) (nx : q_nx (e_Run (tb_L L xs) post e_no) i B bc bs) : e_Run (tb_L L xs) post e_no 484 (q_lc i l5 l6 l7 l8) [] S bc bs := by
  refine e_walkS (mm_L 6 rfl) (stops := [495]) 40 ?_
  refine ⟨⟨rfl, rfl⟩, h1, by omega, by omega, q_3_mend hY hM (fun e S2 r v2 sv2 sn2 sp2 tk2 tx2 ln2 he hY2 hr h5 => ?_)⟩
  show e_Run (tb_L L xs) post e_no 495 (q_lc i l5 l6 l7 l8) [aI (nI e)] S2 (bc - 1) (bs - 6)
  refine e_walkS (mm_L 6 rfl) (stops := [507]) 40 ?_
  refine ⟨⟨rfl, rfl⟩, h1, h5 _ (fun S3 r2 f m t hr2 => ?_)⟩
  show e_Run (tb_L L xs) post e_no 507 (q_lc i (some (aI (nI e))) l6 l7 l8) [aI r2] S3 (bc - 1) (bs - 6)
  refine e_walkS (mm_L 6 rfl) (stops := [513]) 40 ?_
  refine q_X5_thrown t ?_
  show e_Run (tb_L L xs) post e_no 513 (q_lc i (some (aI (nI e))) (some (aI r2)) l7 l8) [aI (nI e)] S3 (bc - 1) (bs - 6)
  refine e_walkS (mm_L 6 rfl) (stops := [1863]) 40 ?_
  exact ⟨fun _ => ⟨fun z => ⟨e_in15, fun _ => nx _ _ _ _ _ _ _ _ _ _ _ _ _ _ (hY2.fm f) m (by omega) (by omega), fun hc => absurd (q_cmp0 (((congrFun (f.2.2 15 0 (by decide)) 0).trans (hr (q_e0 he z))).trans (by rw [hr2 (q_e0 he z)]))) hc⟩, fun _ => nx _ _ _ _ _ _ _ _ _ _ _ _ _ _ (hY2.fm f) m (by omega) (by omega)⟩, fun hc => absurd rfl hc⟩
theorem q_3_pay {x y : Int32} {p : eQ} (hY : q_Y S v sv sn sp tk tx ln B) (hM : q_M S v sv sn sp tk tx ln) (ht : q_th S B (fun S1 post => w_X5_pay [aR 13 0, aI x, aI y] S1 post) p) : w_L_pay [aR 0 0, aI x, aI y, aR 15 0] S p := q_L_pay (fun P X g1 g2 g0 => q_2_run (q_2_pay hY) hM (by decide) ht P X g1 (fun _ => g2) g0)
theorem lc_6 (h1 : vp_in (i + 1) L) (h2 : vp_in (i + 2) L) (hY : q_Y S v sv sn sp tk tx ln B) (hM : q_M S v sv sn sp tk tx ln) (hb : 64 ≤ bc) (hs : 4480 ≤ bs) (nx : q_nx (e_Run (tb_L L xs) post e_no) i B bc bs) : e_Run (tb_L L xs) post e_no 540 (q_lc i l5 l6 l7 l8) [] S bc bs := by
  refine e_walkS (mm_L 7 rfl) (stops := [557]) 40 ?_
  refine ⟨⟨rfl, rfl⟩, h1, ⟨rfl, rfl⟩, h2, by omega, by omega, q_3_pay hY hM (fun e S2 r v2 sv2 sn2 sp2 tk2 tx2 ln2 he hY2 hr h5 => ?_)⟩
  show e_Run (tb_L L xs) post e_no 557 (q_lc i l5 l6 l7 l8) [aI (nI e)] S2 (bc - 1) (bs - 6)
  refine e_walkS (mm_L 7 rfl) (stops := [575]) 40 ?_
  refine ⟨⟨rfl, rfl⟩, h1, ⟨rfl, rfl⟩, h2, h5 _ (fun S3 r2 f m t hr2 => ?_)⟩
  show e_Run (tb_L L xs) post e_no 575 (q_lc i (some (aI (nI e))) l6 l7 l8) [aI r2] S3 (bc - 1) (bs - 6)
  refine e_walkS (mm_L 7 rfl) (stops := [581]) 40 ?_
  refine q_X5_thrown t ?_
  show e_Run (tb_L L xs) post e_no 581 (q_lc i (some (aI (nI e))) (some (aI r2)) l7 l8) [aI (nI e)] S3 (bc - 1) (bs - 6)
  refine e_walkS (mm_L 7 rfl) (stops := [1863]) 40 ?_
  exact ⟨fun _ => ⟨fun z => ⟨e_in15, fun _ => nx _ _ _ _ _ _ _ _ _ _ _ _ _ _ (hY2.fm f) m (by omega) (by omega), fun hc => absurd (q_cmp0 (((congrFun (f.2.2 15 0 (by decide)) 0).trans (hr (q_e0 he z))).trans (by rw [hr2 (q_e0 he z)]))) hc⟩, fun _ => nx _ _ _ _ _ _ _ _ _ _ _ _ _ _ (hY2.fm f) m (by omega) (by omega)⟩, fun hc => absurd rfl hc⟩
theorem q_3_set {x y : Int32} {p : eQ} (hY : q_Y S v sv sn sp tk tx ln B) (hM : q_M S v sv sn sp tk tx ln) (ht : q_th S B (fun S1 post => w_X5_set [aR 13 0, aI x, aI y] S1 post) p) : w_L_set [aR 0 0, aI x, aI y, aR 15 0] S p := q_L_set (fun P X g1 g2 g0 => q_2_run (q_2_set hY) hM (by decide) ht P X g1 (fun _ => g2) g0)
theorem lc_7 (h1 : vp_in (i + 1) L) (h2 : vp_in (i + 2) L) (hY : q_Y S v sv sn sp tk tx ln B) (hM : q_M S v sv sn sp tk tx ln) (hb : 64 ≤ bc) (hs : 4480 ≤ bs) (nx : q_nx (e_Run (tb_L L xs) post e_no) i B bc bs) : e_Run (tb_L L xs) post e_no 608 (q_lc i l5 l6 l7 l8) [] S bc bs := by
  refine e_walkS (mm_L 8 rfl) (stops := [625]) 40 ?_
  refine ⟨⟨rfl, rfl⟩, h1, ⟨rfl, rfl⟩, h2, by omega, by omega, q_3_set hY hM (fun e S2 r v2 sv2 sn2 sp2 tk2 tx2 ln2 he hY2 hr h5 => ?_)⟩
  show e_Run (tb_L L xs) post e_no 625 (q_lc i l5 l6 l7 l8) [aI (nI e)] S2 (bc - 1) (bs - 6)
  refine e_walkS (mm_L 8 rfl) (stops := [643]) 40 ?_
  refine ⟨⟨rfl, rfl⟩, h1, ⟨rfl, rfl⟩, h2, h5 _ (fun S3 r2 f m t hr2 => ?_)⟩
  show e_Run (tb_L L xs) post e_no 643 (q_lc i (some (aI (nI e))) l6 l7 l8) [aI r2] S3 (bc - 1) (bs - 6)
  refine e_walkS (mm_L 8 rfl) (stops := [649]) 40 ?_
  refine q_X5_thrown t ?_
  show e_Run (tb_L L xs) post e_no 649 (q_lc i (some (aI (nI e))) (some (aI r2)) l7 l8) [aI (nI e)] S3 (bc - 1) (bs - 6)
  refine e_walkS (mm_L 8 rfl) (stops := [1863]) 40 ?_
  exact ⟨fun _ => ⟨fun z => ⟨e_in15, fun _ => nx _ _ _ _ _ _ _ _ _ _ _ _ _ _ (hY2.fm f) m (by omega) (by omega), fun hc => absurd (q_cmp0 (((congrFun (f.2.2 15 0 (by decide)) 0).trans (hr (q_e0 he z))).trans (by rw [hr2 (q_e0 he z)]))) hc⟩, fun _ => nx _ _ _ _ _ _ _ _ _ _ _ _ _ _ (hY2.fm f) m (by omega) (by omega)⟩, fun hc => absurd rfl hc⟩
theorem q_3_pass {x : Int32} {p : eQ} (hY : q_Y S v sv sn sp tk tx ln B) (hM : q_M S v sv sn sp tk tx ln) (ht : q_th S B (fun S1 post => w_X5_pass [aR 13 0, aI x] S1 post) p) : w_L_pass [aR 0 0, aI x, aR 15 0] S p := q_L_pass (fun P X g1 g0 => q_2_run (q_2_pass hY) hM (by decide) ht P X g1 (fun z => absurd z (by decide)) g0)
theorem lc_8 (h1 : vp_in (i + 1) L) (hY : q_Y S v sv sn sp tk tx ln B) (hM : q_M S v sv sn sp tk tx ln) (hb : 64 ≤ bc) (hs : 4480 ≤ bs) (nx : q_nx (e_Run (tb_L L xs) post e_no) i B bc bs) : e_Run (tb_L L xs) post e_no 676 (q_lc i l5 l6 l7 l8) [] S bc bs := by
  refine e_walkS (mm_L 9 rfl) (stops := [687]) 40 ?_
  refine ⟨⟨rfl, rfl⟩, h1, by omega, by omega, q_3_pass hY hM (fun e S2 r v2 sv2 sn2 sp2 tk2 tx2 ln2 he hY2 hr h5 => ?_)⟩
  show e_Run (tb_L L xs) post e_no 687 (q_lc i l5 l6 l7 l8) [aI (nI e)] S2 (bc - 1) (bs - 6)
  refine e_walkS (mm_L 9 rfl) (stops := [699]) 40 ?_
  refine ⟨⟨rfl, rfl⟩, h1, h5 _ (fun S3 r2 f m t hr2 => ?_)⟩
  show e_Run (tb_L L xs) post e_no 699 (q_lc i (some (aI (nI e))) l6 l7 l8) [aI r2] S3 (bc - 1) (bs - 6)
  refine e_walkS (mm_L 9 rfl) (stops := [705]) 40 ?_
  refine q_X5_thrown t ?_
  show e_Run (tb_L L xs) post e_no 705 (q_lc i (some (aI (nI e))) (some (aI r2)) l7 l8) [aI (nI e)] S3 (bc - 1) (bs - 6)
  refine e_walkS (mm_L 9 rfl) (stops := [1863]) 40 ?_
  exact ⟨fun _ => ⟨fun z => ⟨e_in15, fun _ => nx _ _ _ _ _ _ _ _ _ _ _ _ _ _ (hY2.fm f) m (by omega) (by omega), fun hc => absurd (q_cmp0 (((congrFun (f.2.2 15 0 (by decide)) 0).trans (hr (q_e0 he z))).trans (by rw [hr2 (q_e0 he z)]))) hc⟩, fun _ => nx _ _ _ _ _ _ _ _ _ _ _ _ _ _ (hY2.fm f) m (by omega) (by omega)⟩, fun hc => absurd rfl hc⟩
theorem q_3_teach {x y : Int32} {p : eQ} (hY : q_Y S v sv sn sp tk tx ln B) (hM : q_M S v sv sn sp tk tx ln) (ht : q_th S B (fun S1 post => w_X5_teach [aR 13 0, aI x, aI y] S1 post) p) : w_L_teach [aR 0 0, aI x, aI y, aR 15 0] S p := q_L_teach (fun P X g1 g2 g0 => q_2_run (q_2_teach hY) hM (by decide) ht P X g1 (fun _ => g2) g0)
theorem lc_9 (h1 : vp_in (i + 1) L) (h2 : vp_in (i + 2) L) (hY : q_Y S v sv sn sp tk tx ln B) (hM : q_M S v sv sn sp tk tx ln) (hb : 64 ≤ bc) (hs : 4480 ≤ bs) (nx : q_nx (e_Run (tb_L L xs) post e_no) i B bc bs) : e_Run (tb_L L xs) post e_no 732 (q_lc i l5 l6 l7 l8) [] S bc bs := by
  refine e_walkS (mm_L 10 rfl) (stops := [749]) 40 ?_
  refine ⟨⟨rfl, rfl⟩, h1, ⟨rfl, rfl⟩, h2, by omega, by omega, q_3_teach hY hM (fun e S2 r v2 sv2 sn2 sp2 tk2 tx2 ln2 he hY2 hr h5 => ?_)⟩
  show e_Run (tb_L L xs) post e_no 749 (q_lc i l5 l6 l7 l8) [aI (nI e)] S2 (bc - 1) (bs - 6)
  refine e_walkS (mm_L 10 rfl) (stops := [767]) 40 ?_
  refine ⟨⟨rfl, rfl⟩, h1, ⟨rfl, rfl⟩, h2, h5 _ (fun S3 r2 f m t hr2 => ?_)⟩
  show e_Run (tb_L L xs) post e_no 767 (q_lc i (some (aI (nI e))) l6 l7 l8) [aI r2] S3 (bc - 1) (bs - 6)
  refine e_walkS (mm_L 10 rfl) (stops := [773]) 40 ?_
  refine q_X5_thrown t ?_
  show e_Run (tb_L L xs) post e_no 773 (q_lc i (some (aI (nI e))) (some (aI r2)) l7 l8) [aI (nI e)] S3 (bc - 1) (bs - 6)
  refine e_walkS (mm_L 10 rfl) (stops := [1863]) 40 ?_
  exact ⟨fun _ => ⟨fun z => ⟨e_in15, fun _ => nx _ _ _ _ _ _ _ _ _ _ _ _ _ _ (hY2.fm f) m (by omega) (by omega), fun hc => absurd (q_cmp0 (((congrFun (f.2.2 15 0 (by decide)) 0).trans (hr (q_e0 he z))).trans (by rw [hr2 (q_e0 he z)]))) hc⟩, fun _ => nx _ _ _ _ _ _ _ _ _ _ _ _ _ _ (hY2.fm f) m (by omega) (by omega)⟩, fun hc => absurd rfl hc⟩
theorem q_3_march {x : Int32} {p : eQ} (hY : q_Y S v sv sn sp tk tx ln B) (hM : q_M S v sv sn sp tk tx ln) (ht : q_th S B (fun S1 post => w_X5_march [aR 13 0, aI x] S1 post) p) : w_L_march [aR 0 0, aI x, aR 15 0] S p := q_L_march (fun P X g1 g2 g0 => q_2_run (q_2_march hY) hM (by decide) ht P X g1 (fun _ => g2) g0)
theorem lc_10 (h1 : vp_in (i + 1) L) (hY : q_Y S v sv sn sp tk tx ln B) (hM : q_M S v sv sn sp tk tx ln) (hb : 64 ≤ bc) (hs : 4480 ≤ bs) (nx : q_nx (e_Run (tb_L L xs) post e_no) i B bc bs) : e_Run (tb_L L xs) post e_no 800 (q_lc i l5 l6 l7 l8) [] S bc bs := by
  refine e_walkS (mm_L 11 rfl) (stops := [811]) 40 ?_
  refine ⟨⟨rfl, rfl⟩, h1, by omega, by omega, q_3_march hY hM (fun e S2 r v2 sv2 sn2 sp2 tk2 tx2 ln2 he hY2 hr h5 => ?_)⟩
  show e_Run (tb_L L xs) post e_no 811 (q_lc i l5 l6 l7 l8) [aI (nI e)] S2 (bc - 1) (bs - 6)
  refine e_walkS (mm_L 11 rfl) (stops := [823]) 40 ?_
  refine ⟨⟨rfl, rfl⟩, h1, h5 _ (fun S3 r2 f m t hr2 => ?_)⟩
  show e_Run (tb_L L xs) post e_no 823 (q_lc i (some (aI (nI e))) l6 l7 l8) [aI r2] S3 (bc - 1) (bs - 6)
  refine e_walkS (mm_L 11 rfl) (stops := [829]) 40 ?_
  refine q_X5_thrown t ?_
  show e_Run (tb_L L xs) post e_no 829 (q_lc i (some (aI (nI e))) (some (aI r2)) l7 l8) [aI (nI e)] S3 (bc - 1) (bs - 6)
  refine e_walkS (mm_L 11 rfl) (stops := [1863]) 40 ?_
  exact ⟨fun _ => ⟨fun z => ⟨e_in15, fun _ => nx _ _ _ _ _ _ _ _ _ _ _ _ _ _ (hY2.fm f) m (by omega) (by omega), fun hc => absurd (q_cmp0 (((congrFun (f.2.2 15 0 (by decide)) 0).trans (hr (q_e0 he z))).trans (by rw [hr2 (q_e0 he z)]))) hc⟩, fun _ => nx _ _ _ _ _ _ _ _ _ _ _ _ _ _ (hY2.fm f) m (by omega) (by omega)⟩, fun hc => absurd rfl hc⟩
theorem q_3_append {x : Int32} {p : eQ} (hY : q_Y S v sv sn sp tk tx ln B) (hM : q_M S v sv sn sp tk tx ln) (ht : q_th S B (fun S1 post => w_X5_append [aR 13 0, aI x] S1 post) p) : w_L_append [aR 0 0, aI x, aR 15 0] S p := q_L_append (fun P X g1 g2 g0 => q_2_run (q_2_append hY) hM (by decide) ht P X g1 (fun _ => g2) g0)
theorem lc_11 (h1 : vp_in (i + 1) L) (hY : q_Y S v sv sn sp tk tx ln B) (hM : q_M S v sv sn sp tk tx ln) (hb : 64 ≤ bc) (hs : 4480 ≤ bs) (nx : q_nx (e_Run (tb_L L xs) post e_no) i B bc bs) : e_Run (tb_L L xs) post e_no 856 (q_lc i l5 l6 l7 l8) [] S bc bs := by
  refine e_walkS (mm_L 12 rfl) (stops := [867]) 40 ?_
  refine ⟨⟨rfl, rfl⟩, h1, by omega, by omega, q_3_append hY hM (fun e S2 r v2 sv2 sn2 sp2 tk2 tx2 ln2 he hY2 hr h5 => ?_)⟩
  show e_Run (tb_L L xs) post e_no 867 (q_lc i l5 l6 l7 l8) [aI (nI e)] S2 (bc - 2) (bs - 76)
  refine e_walkS (mm_L 12 rfl) (stops := [879]) 40 ?_
  refine ⟨⟨rfl, rfl⟩, h1, h5 _ (fun S3 r2 f m t hr2 => ?_)⟩
  show e_Run (tb_L L xs) post e_no 879 (q_lc i (some (aI (nI e))) l6 l7 l8) [aI r2] S3 (bc - 2) (bs - 76)
  refine e_walkS (mm_L 12 rfl) (stops := [885]) 40 ?_
  refine q_X5_thrown t ?_
  show e_Run (tb_L L xs) post e_no 885 (q_lc i (some (aI (nI e))) (some (aI r2)) l7 l8) [aI (nI e)] S3 (bc - 2) (bs - 76)
  refine e_walkS (mm_L 12 rfl) (stops := [1863]) 40 ?_
  exact ⟨fun _ => ⟨fun z => ⟨e_in15, fun _ => nx _ _ _ _ _ _ _ _ _ _ _ _ _ _ (hY2.fm f) m (by omega) (by omega), fun hc => absurd (q_cmp0 (((congrFun (f.2.2 15 0 (by decide)) 0).trans (hr (q_e0 he z))).trans (by rw [hr2 (q_e0 he z)]))) hc⟩, fun _ => nx _ _ _ _ _ _ _ _ _ _ _ _ _ _ (hY2.fm f) m (by omega) (by omega)⟩, fun hc => absurd rfl hc⟩
theorem lc_12 (hY : q_Y S v sv sn sp tk tx ln B) (hM : q_M S v sv sn sp tk tx ln) (hb : 64 ≤ bc) (hs : 4480 ≤ bs) (nx : q_nx (e_Run (tb_L L xs) post e_no) i B bc bs) : e_Run (tb_L L xs) post e_no 912 (q_lc i l5 l6 l7 l8) [] S bc bs := by
  obtain ⟨r, sp2, tk2, ln2, hc, h5⟩ := q_1_clearBuffer hY
  refine e_walkS (mm_L 13 rfl) (stops := [916]) 40 ?_
  refine ⟨by omega, by omega, hc _ (fun S2 w y => ?_)⟩
  show e_Run (tb_L L xs) post e_no 916 (q_lc i l5 l6 l7 l8) [aI r] S2 (bc - 1) (bs - 70)
  refine e_walkS (mm_L 13 rfl) (stops := [920]) 40 ?_
  refine h5 _ _ (hM.w w) (fun S3 f m => ?_)
  show e_Run (tb_L L xs) post e_no 920 (q_lc i l5 l6 l7 l8) [aI r, aI r] S3 (bc - 1) (bs - 70)
  refine e_walkS (mm_L 13 rfl) (stops := [1863]) 40 ?_
  exact ⟨fun _ => nx _ _ _ _ _ _ _ _ _ _ _ _ _ _ (y.fm f) m (by omega) (by omega), fun c => absurd rfl c⟩
theorem lc_13 (hY : q_Y S v sv sn sp tk tx ln B) (hM : q_M S v sv sn sp tk tx ln) (hb : 64 ≤ bc) (hs : 4480 ≤ bs) (nx : q_nx (e_Run (tb_L L xs) post e_no) i B bc bs) : e_Run (tb_L L xs) post e_no 925 (q_lc i l5 l6 l7 l8) [] S bc bs := by
  obtain ⟨r, sp2, tk2, ln2, hc, h5⟩ := q_1_firstError hY
  refine e_walkS (mm_L 14 rfl) (stops := [929]) 40 ?_
  refine hc _ (fun S2 w y => ?_)
  show e_Run (tb_L L xs) post e_no 929 (q_lc i l5 l6 l7 l8) [aI r] S2 bc bs
  refine e_walkS (mm_L 14 rfl) (stops := [933]) 40 ?_
  refine h5 _ _ (hM.w w) (fun S3 f m => ?_)
  show e_Run (tb_L L xs) post e_no 933 (q_lc i l5 l6 l7 l8) [aI r, aI r] S3 bc bs
  refine e_walkS (mm_L 14 rfl) (stops := [1863]) 40 ?_
  exact ⟨fun _ => nx _ _ _ _ _ _ _ _ _ _ _ _ _ _ (y.fm f) m (by omega) (by omega), fun c => absurd rfl c⟩
theorem q_3_work {p : eQ} (hY : q_Y S v sv sn sp tk tx ln B) (hM : q_M S v sv sn sp tk tx ln) (ht : q_th S B (fun S1 post => w_X5_work [aR 13 0] S1 post) p) : w_L_work [aR 0 0, aR 15 0] S p := q_L_work (fun P X g1 g0 => q_2_run (q_2_work hY) hM (by decide) ht P X g1 (fun z => absurd z (by decide)) g0)
theorem lc_14 (hY : q_Y S v sv sn sp tk tx ln B) (hM : q_M S v sv sn sp tk tx ln) (hb : 64 ≤ bc) (hs : 4480 ≤ bs) (nx : q_nx (e_Run (tb_L L xs) post e_no) i B bc bs) : e_Run (tb_L L xs) post e_no 938 (q_lc i l5 l6 l7 l8) [] S bc bs := by
  refine e_walkS (mm_L 15 rfl) (stops := [943]) 40 ?_
  refine ⟨by omega, by omega, q_3_work hY hM (fun e S2 r v2 sv2 sn2 sp2 tk2 tx2 ln2 he hY2 hr h5 => ?_)⟩
  show e_Run (tb_L L xs) post e_no 943 (q_lc i l5 l6 l7 l8) [aI (nI e)] S2 (bc - 2) (bs - 76)
  refine e_walkS (mm_L 15 rfl) (stops := [949]) 40 ?_
  refine h5 _ (fun S3 r2 f m t hr2 => ?_)
  show e_Run (tb_L L xs) post e_no 949 (q_lc i (some (aI (nI e))) l6 l7 l8) [aI r2] S3 (bc - 2) (bs - 76)
  refine e_walkS (mm_L 15 rfl) (stops := [955]) 40 ?_
  refine q_X5_thrown t ?_
  show e_Run (tb_L L xs) post e_no 955 (q_lc i (some (aI (nI e))) (some (aI r2)) l7 l8) [aI (nI e)] S3 (bc - 2) (bs - 76)
  refine e_walkS (mm_L 15 rfl) (stops := [1863]) 40 ?_
  exact ⟨fun _ => ⟨fun z => ⟨e_in15, fun _ => nx _ _ _ _ _ _ _ _ _ _ _ _ _ _ (hY2.fm f) m (by omega) (by omega), fun hc => absurd (q_cmp0 (((congrFun (f.2.2 15 0 (by decide)) 0).trans (hr (q_e0 he z))).trans (by rw [hr2 (q_e0 he z)]))) hc⟩, fun _ => nx _ _ _ _ _ _ _ _ _ _ _ _ _ _ (hY2.fm f) m (by omega) (by omega)⟩, fun hc => absurd rfl hc⟩
theorem q_3_told {x y : Int32} {p : eQ} (hY : q_Y S v sv sn sp tk tx ln B) (hM : q_M S v sv sn sp tk tx ln) (ht : q_th S B (fun S1 post => w_X5_told [aR 13 0, aI x, aI y] S1 post) p) : w_L_told [aR 0 0, aI x, aI y, aR 15 0] S p := q_L_told (fun P X g1 g2 g0 => q_2_run (q_2_told hY) hM (by decide) ht P X g1 (fun _ => g2) g0)
theorem lc_15 (h1 : vp_in (i + 1) L) (h2 : vp_in (i + 2) L) (hY : q_Y S v sv sn sp tk tx ln B) (hM : q_M S v sv sn sp tk tx ln) (hb : 64 ≤ bc) (hs : 4480 ≤ bs) (nx : q_nx (e_Run (tb_L L xs) post e_no) i B bc bs) : e_Run (tb_L L xs) post e_no 982 (q_lc i l5 l6 l7 l8) [] S bc bs := by
  refine e_walkS (mm_L 16 rfl) (stops := [999]) 40 ?_
  refine ⟨⟨rfl, rfl⟩, h1, ⟨rfl, rfl⟩, h2, by omega, by omega, q_3_told hY hM (fun e S2 r v2 sv2 sn2 sp2 tk2 tx2 ln2 he hY2 hr h5 => ?_)⟩
  show e_Run (tb_L L xs) post e_no 999 (q_lc i l5 l6 l7 l8) [aI (nI e)] S2 (bc - 17) (bs - 1126)
  refine e_walkS (mm_L 16 rfl) (stops := [1017]) 40 ?_
  refine ⟨⟨rfl, rfl⟩, h1, ⟨rfl, rfl⟩, h2, h5 _ (fun S3 r2 f m t hr2 => ?_)⟩
  show e_Run (tb_L L xs) post e_no 1017 (q_lc i (some (aI (nI e))) l6 l7 l8) [aI r2] S3 (bc - 17) (bs - 1126)
  refine e_walkS (mm_L 16 rfl) (stops := [1023]) 40 ?_
  refine q_X5_thrown t ?_
  show e_Run (tb_L L xs) post e_no 1023 (q_lc i (some (aI (nI e))) (some (aI r2)) l7 l8) [aI (nI e)] S3 (bc - 17) (bs - 1126)
  refine e_walkS (mm_L 16 rfl) (stops := [1863]) 40 ?_
  exact ⟨fun _ => ⟨fun z => ⟨e_in15, fun _ => nx _ _ _ _ _ _ _ _ _ _ _ _ _ _ (hY2.fm f) m (by omega) (by omega), fun hc => absurd (q_cmp0 (((congrFun (f.2.2 15 0 (by decide)) 0).trans (hr (q_e0 he z))).trans (by rw [hr2 (q_e0 he z)]))) hc⟩, fun _ => nx _ _ _ _ _ _ _ _ _ _ _ _ _ _ (hY2.fm f) m (by omega) (by omega)⟩, fun hc => absurd rfl hc⟩
theorem q_3_undo {p : eQ} (hY : q_Y S v sv sn sp tk tx ln B) (hM : q_M S v sv sn sp tk tx ln) (ht : q_th S B (fun S1 post => w_X5_undo [aR 13 0] S1 post) p) : w_L_undo [aR 0 0, aR 15 0] S p := q_L_undo (fun P X g1 g0 => q_2_run (q_2_undo hY) hM (by decide) ht P X g1 (fun z => absurd z (by decide)) g0)
theorem lc_16 (hY : q_Y S v sv sn sp tk tx ln B) (hM : q_M S v sv sn sp tk tx ln) (hb : 64 ≤ bc) (hs : 4480 ≤ bs) (nx : q_nx (e_Run (tb_L L xs) post e_no) i B bc bs) : e_Run (tb_L L xs) post e_no 1050 (q_lc i l5 l6 l7 l8) [] S bc bs := by
  refine e_walkS (mm_L 17 rfl) (stops := [1055]) 40 ?_
  refine ⟨by omega, by omega, q_3_undo hY hM (fun e S2 r v2 sv2 sn2 sp2 tk2 tx2 ln2 he hY2 hr h5 => ?_)⟩
  show e_Run (tb_L L xs) post e_no 1055 (q_lc i l5 l6 l7 l8) [aI (nI e)] S2 (bc - 1) (bs - 6)
  refine e_walkS (mm_L 17 rfl) (stops := [1061]) 40 ?_
  refine h5 _ (fun S3 r2 f m t hr2 => ?_)
  show e_Run (tb_L L xs) post e_no 1061 (q_lc i (some (aI (nI e))) l6 l7 l8) [aI r2] S3 (bc - 1) (bs - 6)
  refine e_walkS (mm_L 17 rfl) (stops := [1067]) 40 ?_
  refine q_X5_thrown t ?_
  show e_Run (tb_L L xs) post e_no 1067 (q_lc i (some (aI (nI e))) (some (aI r2)) l7 l8) [aI (nI e)] S3 (bc - 1) (bs - 6)
  refine e_walkS (mm_L 17 rfl) (stops := [1863]) 40 ?_
  exact ⟨fun _ => ⟨fun z => ⟨e_in15, fun _ => nx _ _ _ _ _ _ _ _ _ _ _ _ _ _ (hY2.fm f) m (by omega) (by omega), fun hc => absurd (q_cmp0 (((congrFun (f.2.2 15 0 (by decide)) 0).trans (hr (q_e0 he z))).trans (by rw [hr2 (q_e0 he z)]))) hc⟩, fun _ => nx _ _ _ _ _ _ _ _ _ _ _ _ _ _ (hY2.fm f) m (by omega) (by omega)⟩, fun hc => absurd rfl hc⟩
theorem lc_17 (hY : q_Y S v sv sn sp tk tx ln B) (hM : q_M S v sv sn sp tk tx ln) (hb : 64 ≤ bc) (hs : 4480 ≤ bs) (nx : q_nx (e_Run (tb_L L xs) post e_no) i B bc bs) : e_Run (tb_L L xs) post e_no 1094 (q_lc i l5 l6 l7 l8) [] S bc bs := by
  obtain ⟨r, sp2, tk2, ln2, hc, h5⟩ := q_1_keep hY
  refine e_walkS (mm_L 18 rfl) (stops := [1098]) 40 ?_
  refine hc _ (fun S2 w y => ?_)
  show e_Run (tb_L L xs) post e_no 1098 (q_lc i l5 l6 l7 l8) [aI r] S2 bc bs
  refine e_walkS (mm_L 18 rfl) (stops := [1102]) 40 ?_
  refine h5 _ _ (hM.w w) (fun S3 f m => ?_)
  show e_Run (tb_L L xs) post e_no 1102 (q_lc i l5 l6 l7 l8) [aI r, aI r] S3 bc bs
  refine e_walkS (mm_L 18 rfl) (stops := [1863]) 40 ?_
  exact ⟨fun _ => nx _ _ _ _ _ _ _ _ _ _ _ _ _ _ (y.fm f) m (by omega) (by omega), fun c => absurd rfl c⟩
theorem q_3_restore {p : eQ} (hY : q_Y S v sv sn sp tk tx ln B) (hM : q_M S v sv sn sp tk tx ln) (ht : q_th S B (fun S1 post => w_X5_restore [aR 13 0] S1 post) p) : w_L_restore [aR 0 0, aR 15 0] S p := q_L_restore (fun P X g1 g0 => q_2_run (q_2_restore hY) hM (by decide) ht P X g1 (fun z => absurd z (by decide)) g0)
theorem lc_18 (hY : q_Y S v sv sn sp tk tx ln B) (hM : q_M S v sv sn sp tk tx ln) (hb : 64 ≤ bc) (hs : 4480 ≤ bs) (nx : q_nx (e_Run (tb_L L xs) post e_no) i B bc bs) : e_Run (tb_L L xs) post e_no 1107 (q_lc i l5 l6 l7 l8) [] S bc bs := by
  refine e_walkS (mm_L 19 rfl) (stops := [1112]) 40 ?_
  refine ⟨by omega, by omega, q_3_restore hY hM (fun e S2 r v2 sv2 sn2 sp2 tk2 tx2 ln2 he hY2 hr h5 => ?_)⟩
  show e_Run (tb_L L xs) post e_no 1112 (q_lc i l5 l6 l7 l8) [aI (nI e)] S2 (bc - 1) (bs - 6)
  refine e_walkS (mm_L 19 rfl) (stops := [1118]) 40 ?_
  refine h5 _ (fun S3 r2 f m t hr2 => ?_)
  show e_Run (tb_L L xs) post e_no 1118 (q_lc i (some (aI (nI e))) l6 l7 l8) [aI r2] S3 (bc - 1) (bs - 6)
  refine e_walkS (mm_L 19 rfl) (stops := [1124]) 40 ?_
  refine q_X5_thrown t ?_
  show e_Run (tb_L L xs) post e_no 1124 (q_lc i (some (aI (nI e))) (some (aI r2)) l7 l8) [aI (nI e)] S3 (bc - 1) (bs - 6)
  refine e_walkS (mm_L 19 rfl) (stops := [1863]) 40 ?_
  exact ⟨fun _ => ⟨fun z => ⟨e_in15, fun _ => nx _ _ _ _ _ _ _ _ _ _ _ _ _ _ (hY2.fm f) m (by omega) (by omega), fun hc => absurd (q_cmp0 (((congrFun (f.2.2 15 0 (by decide)) 0).trans (hr (q_e0 he z))).trans (by rw [hr2 (q_e0 he z)]))) hc⟩, fun _ => nx _ _ _ _ _ _ _ _ _ _ _ _ _ _ (hY2.fm f) m (by omega) (by omega)⟩, fun hc => absurd rfl hc⟩
theorem q_3_pupilOf {x y : Int32} {p : eQ} (hY : q_Y S v sv sn sp tk tx ln B) (hM : q_M S v sv sn sp tk tx ln) (ht : q_th S B (fun S1 post => w_X5_pupilOf [aR 13 0, aI x, aI y] S1 post) p) : w_L_pupilOf [aR 0 0, aI x, aI y, aR 15 0] S p := q_L_pupilOf (fun P X g1 g2 g0 => q_2_run (q_2_pupilOf hY) hM (by decide) ht P X g1 (fun _ => g2) g0)
theorem lc_19 (h1 : vp_in (i + 1) L) (h2 : vp_in (i + 2) L) (hY : q_Y S v sv sn sp tk tx ln B) (hM : q_M S v sv sn sp tk tx ln) (hb : 64 ≤ bc) (hs : 4480 ≤ bs) (nx : q_nx (e_Run (tb_L L xs) post e_no) i B bc bs) : e_Run (tb_L L xs) post e_no 1151 (q_lc i l5 l6 l7 l8) [] S bc bs := by
  refine e_walkS (mm_L 20 rfl) (stops := [1168]) 40 ?_
  refine ⟨⟨rfl, rfl⟩, h1, ⟨rfl, rfl⟩, h2, by omega, by omega, q_3_pupilOf hY hM (fun e S2 r v2 sv2 sn2 sp2 tk2 tx2 ln2 he hY2 hr h5 => ?_)⟩
  show e_Run (tb_L L xs) post e_no 1168 (q_lc i l5 l6 l7 l8) [aI (nI e)] S2 (bc - 1) (bs - 6)
  refine e_walkS (mm_L 20 rfl) (stops := [1186]) 40 ?_
  refine ⟨⟨rfl, rfl⟩, h1, ⟨rfl, rfl⟩, h2, h5 _ (fun S3 r2 f m t hr2 => ?_)⟩
  show e_Run (tb_L L xs) post e_no 1186 (q_lc i (some (aI (nI e))) l6 l7 l8) [aI r2] S3 (bc - 1) (bs - 6)
  refine e_walkS (mm_L 20 rfl) (stops := [1192]) 40 ?_
  refine q_X5_thrown t ?_
  show e_Run (tb_L L xs) post e_no 1192 (q_lc i (some (aI (nI e))) (some (aI r2)) l7 l8) [aI (nI e)] S3 (bc - 1) (bs - 6)
  refine e_walkS (mm_L 20 rfl) (stops := [1863]) 40 ?_
  exact ⟨fun _ => ⟨fun z => ⟨e_in15, fun _ => nx _ _ _ _ _ _ _ _ _ _ _ _ _ _ (hY2.fm f) m (by omega) (by omega), fun hc => absurd (q_cmp0 (((congrFun (f.2.2 15 0 (by decide)) 0).trans (hr (q_e0 he z))).trans (by rw [hr2 (q_e0 he z)]))) hc⟩, fun _ => nx _ _ _ _ _ _ _ _ _ _ _ _ _ _ (hY2.fm f) m (by omega) (by omega)⟩, fun hc => absurd rfl hc⟩
theorem q_3_instrumentOf {x y : Int32} {p : eQ} (hY : q_Y S v sv sn sp tk tx ln B) (hM : q_M S v sv sn sp tk tx ln) (ht : q_th S B (fun S1 post => w_X5_instrumentOf [aR 13 0, aI x, aI y] S1 post) p) : w_L_instrumentOf [aR 0 0, aI x, aI y, aR 15 0] S p := q_L_instrumentOf (fun P X g1 g2 g0 => q_2_run (q_2_instrumentOf hY) hM (by decide) ht P X g1 (fun _ => g2) g0)
theorem lc_20 (h1 : vp_in (i + 1) L) (h2 : vp_in (i + 2) L) (hY : q_Y S v sv sn sp tk tx ln B) (hM : q_M S v sv sn sp tk tx ln) (hb : 64 ≤ bc) (hs : 4480 ≤ bs) (nx : q_nx (e_Run (tb_L L xs) post e_no) i B bc bs) : e_Run (tb_L L xs) post e_no 1219 (q_lc i l5 l6 l7 l8) [] S bc bs := by
  refine e_walkS (mm_L 21 rfl) (stops := [1236]) 40 ?_
  refine ⟨⟨rfl, rfl⟩, h1, ⟨rfl, rfl⟩, h2, by omega, by omega, q_3_instrumentOf hY hM (fun e S2 r v2 sv2 sn2 sp2 tk2 tx2 ln2 he hY2 hr h5 => ?_)⟩
  show e_Run (tb_L L xs) post e_no 1236 (q_lc i l5 l6 l7 l8) [aI (nI e)] S2 (bc - 1) (bs - 6)
  refine e_walkS (mm_L 21 rfl) (stops := [1254]) 40 ?_
  refine ⟨⟨rfl, rfl⟩, h1, ⟨rfl, rfl⟩, h2, h5 _ (fun S3 r2 f m t hr2 => ?_)⟩
  show e_Run (tb_L L xs) post e_no 1254 (q_lc i (some (aI (nI e))) l6 l7 l8) [aI r2] S3 (bc - 1) (bs - 6)
  refine e_walkS (mm_L 21 rfl) (stops := [1260]) 40 ?_
  refine q_X5_thrown t ?_
  show e_Run (tb_L L xs) post e_no 1260 (q_lc i (some (aI (nI e))) (some (aI r2)) l7 l8) [aI (nI e)] S3 (bc - 1) (bs - 6)
  refine e_walkS (mm_L 21 rfl) (stops := [1863]) 40 ?_
  exact ⟨fun _ => ⟨fun z => ⟨e_in15, fun _ => nx _ _ _ _ _ _ _ _ _ _ _ _ _ _ (hY2.fm f) m (by omega) (by omega), fun hc => absurd (q_cmp0 (((congrFun (f.2.2 15 0 (by decide)) 0).trans (hr (q_e0 he z))).trans (by rw [hr2 (q_e0 he z)]))) hc⟩, fun _ => nx _ _ _ _ _ _ _ _ _ _ _ _ _ _ (hY2.fm f) m (by omega) (by omega)⟩, fun hc => absurd rfl hc⟩
theorem q_3_loan {x : Int32} {p : eQ} (hY : q_Y S v sv sn sp tk tx ln B) (hM : q_M S v sv sn sp tk tx ln) (ht : q_th S B (fun S1 post => w_X5_loan [aR 13 0, aI x] S1 post) p) : w_L_loan [aR 0 0, aI x, aR 15 0] S p := q_L_loan (fun P X g1 g0 => q_2_run (q_2_loan hY) hM (by decide) ht P X g1 (fun z => absurd z (by decide)) g0)
theorem lc_21 (h1 : vp_in (i + 1) L) (hY : q_Y S v sv sn sp tk tx ln B) (hM : q_M S v sv sn sp tk tx ln) (hb : 64 ≤ bc) (hs : 4480 ≤ bs) (nx : q_nx (e_Run (tb_L L xs) post e_no) i B bc bs) : e_Run (tb_L L xs) post e_no 1287 (q_lc i l5 l6 l7 l8) [] S bc bs := by
  refine e_walkS (mm_L 22 rfl) (stops := [1298]) 40 ?_
  refine ⟨⟨rfl, rfl⟩, h1, by omega, by omega, q_3_loan hY hM (fun e S2 r v2 sv2 sn2 sp2 tk2 tx2 ln2 he hY2 hr h5 => ?_)⟩
  show e_Run (tb_L L xs) post e_no 1298 (q_lc i l5 l6 l7 l8) [aI (nI e)] S2 (bc - 1) (bs - 6)
  refine e_walkS (mm_L 22 rfl) (stops := [1310]) 40 ?_
  refine ⟨⟨rfl, rfl⟩, h1, h5 _ (fun S3 r2 f m t hr2 => ?_)⟩
  show e_Run (tb_L L xs) post e_no 1310 (q_lc i (some (aI (nI e))) l6 l7 l8) [aI r2] S3 (bc - 1) (bs - 6)
  refine e_walkS (mm_L 22 rfl) (stops := [1316]) 40 ?_
  refine q_X5_thrown t ?_
  show e_Run (tb_L L xs) post e_no 1316 (q_lc i (some (aI (nI e))) (some (aI r2)) l7 l8) [aI (nI e)] S3 (bc - 1) (bs - 6)
  refine e_walkS (mm_L 22 rfl) (stops := [1863]) 40 ?_
  exact ⟨fun _ => ⟨fun z => ⟨e_in15, fun _ => nx _ _ _ _ _ _ _ _ _ _ _ _ _ _ (hY2.fm f) m (by omega) (by omega), fun hc => absurd (q_cmp0 (((congrFun (f.2.2 15 0 (by decide)) 0).trans (hr (q_e0 he z))).trans (by rw [hr2 (q_e0 he z)]))) hc⟩, fun _ => nx _ _ _ _ _ _ _ _ _ _ _ _ _ _ (hY2.fm f) m (by omega) (by omega)⟩, fun hc => absurd rfl hc⟩
theorem q_3_part {x y w : Int32} {p : eQ} (hY : q_Y S v sv sn sp tk tx ln B) (hM : q_M S v sv sn sp tk tx ln) (ht : q_th S B (fun S1 post => w_X5_part [aR 13 0, aI x, aI y, aI w] S1 post) p) : w_L_part [aR 0 0, aI x, aI y, aI w, aR 15 0] S p := q_L_part (fun P X g1 g2 g0 => q_2_run (q_2_part hY) hM (by decide) ht P X g1 (fun _ => g2) g0)
theorem lc_22 (h1 : vp_in (i + 1) L) (h2 : vp_in (i + 2) L) (h3 : vp_in (i + 3) L) (hY : q_Y S v sv sn sp tk tx ln B) (hM : q_M S v sv sn sp tk tx ln) (hb : 64 ≤ bc) (hs : 4480 ≤ bs) (nx : q_nx (e_Run (tb_L L xs) post e_no) i B bc bs) : e_Run (tb_L L xs) post e_no 1343 (q_lc i l5 l6 l7 l8) [] S bc bs := by
  refine e_walkS (mm_L 23 rfl) (stops := [1366]) 40 ?_
  refine ⟨⟨rfl, rfl⟩, h1, ⟨rfl, rfl⟩, h2, ⟨rfl, rfl⟩, h3, by omega, by omega, q_3_part hY hM (fun e S2 r v2 sv2 sn2 sp2 tk2 tx2 ln2 he hY2 hr h5 => ?_)⟩
  show e_Run (tb_L L xs) post e_no 1366 (q_lc i l5 l6 l7 l8) [aI (nI e)] S2 (bc - 1) (bs - 6)
  refine e_walkS (mm_L 23 rfl) (stops := [1390]) 40 ?_
  refine ⟨⟨rfl, rfl⟩, h1, ⟨rfl, rfl⟩, h2, ⟨rfl, rfl⟩, h3, h5 _ (fun S3 r2 f m t hr2 => ?_)⟩
  show e_Run (tb_L L xs) post e_no 1390 (q_lc i (some (aI (nI e))) l6 l7 l8) [aI r2] S3 (bc - 1) (bs - 6)
  refine e_walkS (mm_L 23 rfl) (stops := [1396]) 40 ?_
  refine q_X5_thrown t ?_
  show e_Run (tb_L L xs) post e_no 1396 (q_lc i (some (aI (nI e))) (some (aI r2)) l7 l8) [aI (nI e)] S3 (bc - 1) (bs - 6)
  refine e_walkS (mm_L 23 rfl) (stops := [1863]) 40 ?_
  exact ⟨fun _ => ⟨fun z => ⟨e_in15, fun _ => nx _ _ _ _ _ _ _ _ _ _ _ _ _ _ (hY2.fm f) m (by omega) (by omega), fun hc => absurd (q_cmp0 (((congrFun (f.2.2 15 0 (by decide)) 0).trans (hr (q_e0 he z))).trans (by rw [hr2 (q_e0 he z)]))) hc⟩, fun _ => nx _ _ _ _ _ _ _ _ _ _ _ _ _ _ (hY2.fm f) m (by omega) (by omega)⟩, fun hc => absurd rfl hc⟩
theorem q_3_count {x : Int32} {p : eQ} (hY : q_Y S v sv sn sp tk tx ln B) (hM : q_M S v sv sn sp tk tx ln) (ht : q_th S B (fun S1 post => w_X5_count [aR 13 0, aI x] S1 post) p) : w_L_count [aR 0 0, aI x, aR 15 0] S p := q_L_count (fun P X g1 g0 => q_2_run (q_2_count hY) hM (by decide) ht P X g1 (fun z => absurd z (by decide)) g0)
theorem lc_23 (h1 : vp_in (i + 1) L) (hY : q_Y S v sv sn sp tk tx ln B) (hM : q_M S v sv sn sp tk tx ln) (hb : 64 ≤ bc) (hs : 4480 ≤ bs) (nx : q_nx (e_Run (tb_L L xs) post e_no) i B bc bs) : e_Run (tb_L L xs) post e_no 1423 (q_lc i l5 l6 l7 l8) [] S bc bs := by
  refine e_walkS (mm_L 24 rfl) (stops := [1434]) 40 ?_
  refine ⟨⟨rfl, rfl⟩, h1, by omega, by omega, q_3_count hY hM (fun e S2 r v2 sv2 sn2 sp2 tk2 tx2 ln2 he hY2 hr h5 => ?_)⟩
  show e_Run (tb_L L xs) post e_no 1434 (q_lc i l5 l6 l7 l8) [aI (nI e)] S2 (bc - 1) (bs - 6)
  refine e_walkS (mm_L 24 rfl) (stops := [1446]) 40 ?_
  refine ⟨⟨rfl, rfl⟩, h1, h5 _ (fun S3 r2 f m t hr2 => ?_)⟩
  show e_Run (tb_L L xs) post e_no 1446 (q_lc i (some (aI (nI e))) l6 l7 l8) [aI r2] S3 (bc - 1) (bs - 6)
  refine e_walkS (mm_L 24 rfl) (stops := [1452]) 40 ?_
  refine q_X5_thrown t ?_
  show e_Run (tb_L L xs) post e_no 1452 (q_lc i (some (aI (nI e))) (some (aI r2)) l7 l8) [aI (nI e)] S3 (bc - 1) (bs - 6)
  refine e_walkS (mm_L 24 rfl) (stops := [1863]) 40 ?_
  exact ⟨fun _ => ⟨fun z => ⟨e_in15, fun _ => nx _ _ _ _ _ _ _ _ _ _ _ _ _ _ (hY2.fm f) m (by omega) (by omega), fun hc => absurd (q_cmp0 (((congrFun (f.2.2 15 0 (by decide)) 0).trans (hr (q_e0 he z))).trans (by rw [hr2 (q_e0 he z)]))) hc⟩, fun _ => nx _ _ _ _ _ _ _ _ _ _ _ _ _ _ (hY2.fm f) m (by omega) (by omega)⟩, fun hc => absurd rfl hc⟩
theorem q_3_noLoan {x y : Int32} {p : eQ} (hY : q_Y S v sv sn sp tk tx ln B) (hM : q_M S v sv sn sp tk tx ln) (ht : q_th S B (fun S1 post => w_X5_noLoan [aR 13 0, aI x, aI y] S1 post) p) : w_L_noLoan [aR 0 0, aI x, aI y, aR 15 0] S p := q_L_noLoan (fun P X g1 g0 => q_2_run (q_2_noLoan hY) hM (by decide) ht P X g1 (fun z => absurd z (by decide)) g0)
theorem lc_24 (h1 : vp_in (i + 1) L) (h2 : vp_in (i + 2) L) (hY : q_Y S v sv sn sp tk tx ln B) (hM : q_M S v sv sn sp tk tx ln) (hb : 64 ≤ bc) (hs : 4480 ≤ bs) (nx : q_nx (e_Run (tb_L L xs) post e_no) i B bc bs) : e_Run (tb_L L xs) post e_no 1479 (q_lc i l5 l6 l7 l8) [] S bc bs := by
  refine e_walkS (mm_L 25 rfl) (stops := [1496]) 40 ?_
  refine ⟨⟨rfl, rfl⟩, h1, ⟨rfl, rfl⟩, h2, by omega, by omega, q_3_noLoan hY hM (fun e S2 r v2 sv2 sn2 sp2 tk2 tx2 ln2 he hY2 hr h5 => ?_)⟩
  show e_Run (tb_L L xs) post e_no 1496 (q_lc i l5 l6 l7 l8) [aI (nI e)] S2 (bc - 1) (bs - 6)
  refine e_walkS (mm_L 25 rfl) (stops := [1514]) 40 ?_
  refine ⟨⟨rfl, rfl⟩, h1, ⟨rfl, rfl⟩, h2, h5 _ (fun S3 r2 f m t hr2 => ?_)⟩
  show e_Run (tb_L L xs) post e_no 1514 (q_lc i (some (aI (nI e))) l6 l7 l8) [aI r2] S3 (bc - 1) (bs - 6)
  refine e_walkS (mm_L 25 rfl) (stops := [1520]) 40 ?_
  refine q_X5_thrown t ?_
  show e_Run (tb_L L xs) post e_no 1520 (q_lc i (some (aI (nI e))) (some (aI r2)) l7 l8) [aI (nI e)] S3 (bc - 1) (bs - 6)
  refine e_walkS (mm_L 25 rfl) (stops := [1863]) 40 ?_
  exact ⟨fun _ => ⟨fun z => ⟨e_in15, fun _ => nx _ _ _ _ _ _ _ _ _ _ _ _ _ _ (hY2.fm f) m (by omega) (by omega), fun hc => absurd (q_cmp0 (((congrFun (f.2.2 15 0 (by decide)) 0).trans (hr (q_e0 he z))).trans (by rw [hr2 (q_e0 he z)]))) hc⟩, fun _ => nx _ _ _ _ _ _ _ _ _ _ _ _ _ _ (hY2.fm f) m (by omega) (by omega)⟩, fun hc => absurd rfl hc⟩
theorem q_3_noLesson {x y : Int32} {p : eQ} (hY : q_Y S v sv sn sp tk tx ln B) (hM : q_M S v sv sn sp tk tx ln) (ht : q_th S B (fun S1 post => w_X5_noLesson [aR 13 0, aI x, aI y] S1 post) p) : w_L_noLesson [aR 0 0, aI x, aI y, aR 15 0] S p := q_L_noLesson (fun P X g1 g0 => q_2_run (q_2_noLesson hY) hM (by decide) ht P X g1 (fun z => absurd z (by decide)) g0)
theorem lc_25 (h1 : vp_in (i + 1) L) (h2 : vp_in (i + 2) L) (hY : q_Y S v sv sn sp tk tx ln B) (hM : q_M S v sv sn sp tk tx ln) (hb : 64 ≤ bc) (hs : 4480 ≤ bs) (nx : q_nx (e_Run (tb_L L xs) post e_no) i B bc bs) : e_Run (tb_L L xs) post e_no 1547 (q_lc i l5 l6 l7 l8) [] S bc bs := by
  refine e_walkS (mm_L 26 rfl) (stops := [1564]) 40 ?_
  refine ⟨⟨rfl, rfl⟩, h1, ⟨rfl, rfl⟩, h2, by omega, by omega, q_3_noLesson hY hM (fun e S2 r v2 sv2 sn2 sp2 tk2 tx2 ln2 he hY2 hr h5 => ?_)⟩
  show e_Run (tb_L L xs) post e_no 1564 (q_lc i l5 l6 l7 l8) [aI (nI e)] S2 (bc - 1) (bs - 6)
  refine e_walkS (mm_L 26 rfl) (stops := [1582]) 40 ?_
  refine ⟨⟨rfl, rfl⟩, h1, ⟨rfl, rfl⟩, h2, h5 _ (fun S3 r2 f m t hr2 => ?_)⟩
  show e_Run (tb_L L xs) post e_no 1582 (q_lc i (some (aI (nI e))) l6 l7 l8) [aI r2] S3 (bc - 1) (bs - 6)
  refine e_walkS (mm_L 26 rfl) (stops := [1588]) 40 ?_
  refine q_X5_thrown t ?_
  show e_Run (tb_L L xs) post e_no 1588 (q_lc i (some (aI (nI e))) (some (aI r2)) l7 l8) [aI (nI e)] S3 (bc - 1) (bs - 6)
  refine e_walkS (mm_L 26 rfl) (stops := [1863]) 40 ?_
  exact ⟨fun _ => ⟨fun z => ⟨e_in15, fun _ => nx _ _ _ _ _ _ _ _ _ _ _ _ _ _ (hY2.fm f) m (by omega) (by omega), fun hc => absurd (q_cmp0 (((congrFun (f.2.2 15 0 (by decide)) 0).trans (hr (q_e0 he z))).trans (by rw [hr2 (q_e0 he z)]))) hc⟩, fun _ => nx _ _ _ _ _ _ _ _ _ _ _ _ _ _ (hY2.fm f) m (by omega) (by omega)⟩, fun hc => absurd rfl hc⟩
theorem q_3_shortOf {x : Int32} {p : eQ} (hY : q_Y S v sv sn sp tk tx ln B) (hM : q_M S v sv sn sp tk tx ln) (ht : q_th S B (fun S1 post => w_X5_shortOf [aR 13 0, aI x] S1 post) p) : w_L_shortOf [aR 0 0, aI x, aR 15 0] S p := q_L_shortOf (fun P X g1 g0 => q_2_run (q_2_shortOf hY) hM (by decide) ht P X g1 (fun z => absurd z (by decide)) g0)
theorem lc_26 (h1 : vp_in (i + 1) L) (hY : q_Y S v sv sn sp tk tx ln B) (hM : q_M S v sv sn sp tk tx ln) (hb : 64 ≤ bc) (hs : 4480 ≤ bs) (nx : q_nx (e_Run (tb_L L xs) post e_no) i B bc bs) : e_Run (tb_L L xs) post e_no 1615 (q_lc i l5 l6 l7 l8) [] S bc bs := by
  refine e_walkS (mm_L 27 rfl) (stops := [1626]) 40 ?_
  refine ⟨⟨rfl, rfl⟩, h1, by omega, by omega, q_3_shortOf hY hM (fun e S2 r v2 sv2 sn2 sp2 tk2 tx2 ln2 he hY2 hr h5 => ?_)⟩
  show e_Run (tb_L L xs) post e_no 1626 (q_lc i l5 l6 l7 l8) [aI (nI e)] S2 (bc - 1) (bs - 6)
  refine e_walkS (mm_L 27 rfl) (stops := [1638]) 40 ?_
  refine ⟨⟨rfl, rfl⟩, h1, h5 _ (fun S3 r2 f m t hr2 => ?_)⟩
  show e_Run (tb_L L xs) post e_no 1638 (q_lc i (some (aI (nI e))) l6 l7 l8) [aI r2] S3 (bc - 1) (bs - 6)
  refine e_walkS (mm_L 27 rfl) (stops := [1644]) 40 ?_
  refine q_X5_thrown t ?_
  show e_Run (tb_L L xs) post e_no 1644 (q_lc i (some (aI (nI e))) (some (aI r2)) l7 l8) [aI (nI e)] S3 (bc - 1) (bs - 6)
  refine e_walkS (mm_L 27 rfl) (stops := [1863]) 40 ?_
  exact ⟨fun _ => ⟨fun z => ⟨e_in15, fun _ => nx _ _ _ _ _ _ _ _ _ _ _ _ _ _ (hY2.fm f) m (by omega) (by omega), fun hc => absurd (q_cmp0 (((congrFun (f.2.2 15 0 (by decide)) 0).trans (hr (q_e0 he z))).trans (by rw [hr2 (q_e0 he z)]))) hc⟩, fun _ => nx _ _ _ _ _ _ _ _ _ _ _ _ _ _ (hY2.fm f) m (by omega) (by omega)⟩, fun hc => absurd rfl hc⟩
theorem q_3_most {x : Int32} {p : eQ} (hY : q_Y S v sv sn sp tk tx ln B) (hM : q_M S v sv sn sp tk tx ln) (ht : q_th S B (fun S1 post => w_X5_most [aR 13 0, aI x] S1 post) p) : w_L_most [aR 0 0, aI x, aR 15 0] S p := q_L_most (fun P X g1 g0 => q_2_run (q_2_most hY) hM (by decide) ht P X g1 (fun z => absurd z (by decide)) g0)
theorem lc_27 (h1 : vp_in (i + 1) L) (hY : q_Y S v sv sn sp tk tx ln B) (hM : q_M S v sv sn sp tk tx ln) (hb : 64 ≤ bc) (hs : 4480 ≤ bs) (nx : q_nx (e_Run (tb_L L xs) post e_no) i B bc bs) : e_Run (tb_L L xs) post e_no 1671 (q_lc i l5 l6 l7 l8) [] S bc bs := by
  refine e_walkS (mm_L 28 rfl) (stops := [1682]) 40 ?_
  refine ⟨⟨rfl, rfl⟩, h1, by omega, by omega, q_3_most hY hM (fun e S2 r v2 sv2 sn2 sp2 tk2 tx2 ln2 he hY2 hr h5 => ?_)⟩
  show e_Run (tb_L L xs) post e_no 1682 (q_lc i l5 l6 l7 l8) [aI (nI e)] S2 (bc - 1) (bs - 6)
  refine e_walkS (mm_L 28 rfl) (stops := [1694]) 40 ?_
  refine ⟨⟨rfl, rfl⟩, h1, h5 _ (fun S3 r2 f m t hr2 => ?_)⟩
  show e_Run (tb_L L xs) post e_no 1694 (q_lc i (some (aI (nI e))) l6 l7 l8) [aI r2] S3 (bc - 1) (bs - 6)
  refine e_walkS (mm_L 28 rfl) (stops := [1700]) 40 ?_
  refine q_X5_thrown t ?_
  show e_Run (tb_L L xs) post e_no 1700 (q_lc i (some (aI (nI e))) (some (aI r2)) l7 l8) [aI (nI e)] S3 (bc - 1) (bs - 6)
  refine e_walkS (mm_L 28 rfl) (stops := [1863]) 40 ?_
  exact ⟨fun _ => ⟨fun z => ⟨e_in15, fun _ => nx _ _ _ _ _ _ _ _ _ _ _ _ _ _ (hY2.fm f) m (by omega) (by omega), fun hc => absurd (q_cmp0 (((congrFun (f.2.2 15 0 (by decide)) 0).trans (hr (q_e0 he z))).trans (by rw [hr2 (q_e0 he z)]))) hc⟩, fun _ => nx _ _ _ _ _ _ _ _ _ _ _ _ _ _ (hY2.fm f) m (by omega) (by omega)⟩, fun hc => absurd rfl hc⟩
theorem lc_28 (hY : q_Y S v sv sn sp tk tx ln B) (hM : q_M S v sv sn sp tk tx ln) (hb : 64 ≤ bc) (hs : 4480 ≤ bs) (nx : q_nx (e_Run (tb_L L xs) post e_no) i B bc bs) : e_Run (tb_L L xs) post e_no 1727 (q_lc i l5 l6 l7 l8) [] S bc bs := by
  obtain ⟨r, sp2, tk2, ln2, hc, h5⟩ := q_1_bestMarch hY
  refine e_walkS (mm_L 29 rfl) (stops := [1731]) 40 ?_
  refine hc _ (fun S2 w y => ?_)
  show e_Run (tb_L L xs) post e_no 1731 (q_lc i l5 l6 l7 l8) [aI r] S2 bc bs
  refine e_walkS (mm_L 29 rfl) (stops := [1735]) 40 ?_
  refine h5 _ _ (hM.w w) (fun S3 f m => ?_)
  show e_Run (tb_L L xs) post e_no 1735 (q_lc i l5 l6 l7 l8) [aI r, aI r] S3 bc bs
  refine e_walkS (mm_L 29 rfl) (stops := [1863]) 40 ?_
  exact ⟨fun _ => nx _ _ _ _ _ _ _ _ _ _ _ _ _ _ (y.fm f) m (by omega) (by omega), fun c => absurd rfl c⟩
theorem q_3_helps {x y : Int32} {p : eQ} (hY : q_Y S v sv sn sp tk tx ln B) (hM : q_M S v sv sn sp tk tx ln) (ht : q_th S B (fun S1 post => w_X5_helps [aR 13 0, aI x, aI y] S1 post) p) : w_L_helps [aR 0 0, aI x, aI y, aR 15 0] S p := q_L_helps (fun P X g1 g0 => q_2_run (q_2_helps hY) hM (by decide) ht P X g1 (fun z => absurd z (by decide)) g0)
theorem lc_29 (h1 : vp_in (i + 1) L) (h2 : vp_in (i + 2) L) (hY : q_Y S v sv sn sp tk tx ln B) (hM : q_M S v sv sn sp tk tx ln) (hb : 64 ≤ bc) (hs : 4480 ≤ bs) (nx : q_nx (e_Run (tb_L L xs) post e_no) i B bc bs) : e_Run (tb_L L xs) post e_no 1740 (q_lc i l5 l6 l7 l8) [] S bc bs := by
  refine e_walkS (mm_L 30 rfl) (stops := [1757]) 40 ?_
  refine ⟨⟨rfl, rfl⟩, h1, ⟨rfl, rfl⟩, h2, by omega, by omega, q_3_helps hY hM (fun e S2 r v2 sv2 sn2 sp2 tk2 tx2 ln2 he hY2 hr h5 => ?_)⟩
  show e_Run (tb_L L xs) post e_no 1757 (q_lc i l5 l6 l7 l8) [aI (nI e)] S2 (bc - 1) (bs - 6)
  refine e_walkS (mm_L 30 rfl) (stops := [1775]) 40 ?_
  refine ⟨⟨rfl, rfl⟩, h1, ⟨rfl, rfl⟩, h2, h5 _ (fun S3 r2 f m t hr2 => ?_)⟩
  show e_Run (tb_L L xs) post e_no 1775 (q_lc i (some (aI (nI e))) l6 l7 l8) [aI r2] S3 (bc - 1) (bs - 6)
  refine e_walkS (mm_L 30 rfl) (stops := [1781]) 40 ?_
  refine q_X5_thrown t ?_
  show e_Run (tb_L L xs) post e_no 1781 (q_lc i (some (aI (nI e))) (some (aI r2)) l7 l8) [aI (nI e)] S3 (bc - 1) (bs - 6)
  refine e_walkS (mm_L 30 rfl) (stops := [1863]) 40 ?_
  exact ⟨fun _ => ⟨fun z => ⟨e_in15, fun _ => nx _ _ _ _ _ _ _ _ _ _ _ _ _ _ (hY2.fm f) m (by omega) (by omega), fun hc => absurd (q_cmp0 (((congrFun (f.2.2 15 0 (by decide)) 0).trans (hr (q_e0 he z))).trans (by rw [hr2 (q_e0 he z)]))) hc⟩, fun _ => nx _ _ _ _ _ _ _ _ _ _ _ _ _ _ (hY2.fm f) m (by omega) (by omega)⟩, fun hc => absurd rfl hc⟩
theorem lc_30 (hB : 4 * B < 2 ^ 20) (hY : q_Y S v sv sn sp tk tx ln B) (hM : q_M S v sv sn sp tk tx ln) (hb : 64 ≤ bc) (hs : 4480 ≤ bs) (nx : q_nx (e_Run (tb_L L xs) post e_no) i B bc bs) : e_Run (tb_L L xs) post e_no 1808 (q_lc i l5 l6 l7 l8) [] S bc bs := by
  obtain ⟨r, sp2, tk2, ln2, hc, h5⟩ := q_1_played hY hB
  refine e_walkS (mm_L 31 rfl) (stops := [1812]) 40 ?_
  refine hc _ (fun S2 w y => ?_)
  show e_Run (tb_L L xs) post e_no 1812 (q_lc i l5 l6 l7 l8) [aD r] S2 bc bs
  refine e_walkS (mm_L 31 rfl) (stops := [1818]) 40 ?_
  refine h5 _ _ (hM.w w) (fun S3 f m => ?_)
  show e_Run (tb_L L xs) post e_no 1818 (q_lc i (some (aD r)) none l7 l8) [aD r] S3 bc bs
  refine e_walkS (mm_L 31 rfl) (stops := [1863]) 40 ?_
  exact ⟨fun _ => nx _ _ _ _ _ _ _ _ _ _ _ _ _ _ (y.fm f) m (by omega) (by omega), fun c => ⟨fun z => absurd z c, fun _ => ⟨fun z => absurd z c, fun _ => nx _ _ _ _ _ _ _ _ _ _ _ _ _ _ (y.fm f) m (by omega) (by omega)⟩⟩⟩
theorem lc_31 (hB : 4 * B < 2 ^ 20) (hY : q_Y S v sv sn sp tk tx ln B) (hM : q_M S v sv sn sp tk tx ln) (hb : 64 ≤ bc) (hs : 4480 ≤ bs) (nx : q_nx (e_Run (tb_L L xs) post e_no) i B bc bs) : e_Run (tb_L L xs) post e_no 1849 (q_lc i l5 l6 l7 l8) [] S bc bs := by
  obtain ⟨r, sp2, tk2, ln2, hc, h5⟩ := q_1_digest hY hB
  refine e_walkS (mm_L 32 rfl) (stops := [1853]) 40 ?_
  refine ⟨by omega, by omega, hc _ (fun S2 w y => ?_)⟩
  show e_Run (tb_L L xs) post e_no 1853 (q_lc i l5 l6 l7 l8) [aL r] S2 (bc - 64) (bs - 4480)
  refine e_walkS (mm_L 32 rfl) (stops := [1857]) 40 ?_
  refine h5 _ _ (hM.w w) (fun S3 f m => ?_)
  show e_Run (tb_L L xs) post e_no 1857 (q_lc i l5 l6 l7 l8) [aL r, aL r] S3 (bc - 64) (bs - 4480)
  refine e_walkS (mm_L 32 rfl) (stops := [1863]) 40 ?_
  exact ⟨fun _ => nx _ _ _ _ _ _ _ _ _ _ _ _ _ _ (y.fm f) m (by omega) (by omega), fun c => absurd (q_cmp0 rfl) c⟩
end Cases
