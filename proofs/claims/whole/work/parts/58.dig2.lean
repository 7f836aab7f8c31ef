/-! What walks come to: the system's hash. Own work. -/
section Dig2
variable {S S1 S2 S3 : eM} {post : eQ} {v : qV} {B b np ni nl : Nat}
theorem q_X4_mixMarch {m i io ln lo : Nat} {f g : Nat → Int32} {x : Int64} (hi : q_inv B v np ni nl) (hB : q_B S 0 v np ni nl) (hm : m < 4) (hT : q_T1 S 0 i f ln) (hO : q_T1 S 1 io g lo) (hio : i ≠ io) (h : ∀ S2 i2, q_g S S2 → i2 ≠ io → q_T1 S2 0 i2 (q_ch v m np 4 0) (q_tl m 4 0) → q_T1 S2 1 io g lo → post (some (aL (q_hm v m np x))) S2) : w_X4_mixMarch [aR 0 0, aL x, aI (nI m)] S post := by
  have hv := hi.ok0
  have hl := hi.lips
  have h35 := q_tl_35 m hm
  refine e_walk (stops := [6]) 20 ?_
  refine q_X4_fillLineUp hv hl hB hm (fun S1 f1 _ => ?_)
  refine e_walk (stops := [10]) 20 ?_
  refine q_X4_mix ?_
  refine e_walk (stops := [19]) 20 ?_
  refine q_X4_mostParts hv (hB.f9 f1) hm ?_
  refine e_walk (stops := [23]) 20 ?_
  refine q_X4_mix ?_
  refine e_walk (stops := [33]) 20 ?_
  refine q_X4_helper (t := 2) hi (hB.f9 f1) hm (by decide) (fun S2 f2 => ?_)
  refine e_walk (stops := [37]) 20 ?_
  refine q_X4_mix ?_
  refine e_walk (stops := [39]) 20 ?_
  show e_Run tb_X4_mixMarch post e_no 39 [some (aR 0 0), some (aL x), none, some (aI (nI m)), some (aL (q_mx (q_mx (q_mx x (nI (q_sh v m np 4)).toInt64) (q_mos v m np 16).toInt64) (q_hl v m np 2 np 0).toInt64)), none, none] [] S2 16 1120
  unfold q_hm at h
  generalize q_mx (q_mx (q_mx x (nI (q_sh v m np 4)).toInt64) (q_mos v m np 16).toInt64) (q_hl v m np 2 np 0).toInt64 = h0 at *
  refine e_walk (stops := [44]) 20 ?_
  refine And.intro (Nat.le_refl 16) (And.intro (Nat.le_refl 1120) ?_)
  have f12 := f1.trans f2
  refine q_X4_tellLineUp hv hl (hB.f9 f12) hm (hT.f9 f12) (hO.f9 f12) hio (fun S3 i3 g3 hi3 hT3 hO3 => ?_)
  have h := h S3 i3 ((q_g.f9 f12).trans g3) hi3 hT3 hO3
  have loop : ∀ d k, k + d = q_tl m 4 0 → e_Run tb_X4_mixMarch post e_no 47 [some (aR 0 0), some (aL x), none, some (aI (nI m)), some (aL (q_fold (fun k => (q_ch v m np 4 0 k).toInt64) k h0)), none, some (aI (nI k))] [] S3 0 0 := by
    intro d
    induction d with
    | zero =>
      intro k hk
      obtain rfl : k = q_tl m 4 0 := by omega
      refine e_walk (stops := [56]) 20 ?_
      refine q_J4_length hT3 ?_
      refine e_walk (stops := []) 20 ?_
      exact And.intro (fun _ => h) (fun c => absurd (nI_le (a := q_tl m 4 0) (b := q_tl m 4 0) (by omega) (by omega)) c)
    | succ d ih =>
      intro k hk
      refine e_walk (stops := [56]) 20 ?_
      refine q_J4_length hT3 ?_
      refine e_walk (stops := [70]) 20 ?_
      refine And.intro (fun c => absurd c (nI_ge (a := k) (b := q_tl m 4 0) (by omega) (by omega))) (fun _ => ?_)
      refine q_J4_charAt hT3 (j := k) (by omega) ?_
      refine e_walk (stops := [74]) 20 ?_
      refine q_X4_mix ?_
      refine e_walk (stops := [47]) 20 ?_
      show e_Run tb_X4_mixMarch post e_no 47 [some (aR 0 0), some (aL x), none, some (aI (nI m)), some (aL (q_fold (fun k => (q_ch v m np 4 0 k).toInt64) (k + 1) h0)), none, some (aI (nI k + 1))] [] S3 0 0
      rw [nI_1]
      exact ih (k + 1) (by omega)
  refine e_walk (stops := [47]) 20 ?_
  exact loop (q_tl m 4 0) 0 (by omega)
theorem q_dh_1 {sn : Nat} (hi : q_inv B v np ni nl) (hB : q_B S 0 v np ni nl) (hs : mI S 0 0 4 = nI sn) (hp : e_Run tb_X4_digest post e_no 29 [some (aR 0 0), some (aL (q_fold (fun w => (q_cTold v np sn w).toInt64) 19 3733)), none, some (aI 19)] [] S 64 4480) : ∀ d k, k + d = 19 → e_Run tb_X4_digest post e_no 6 [some (aR 0 0), some (aL (q_fold (fun w => (q_cTold v np sn w).toInt64) k 3733)), none, some (aI (nI k))] [] S 64 4480 := by
  intro d
  induction d with
  | zero =>
    intro k hk
    obtain rfl : k = 19 := by omega
    refine e_walk (stops := [29]) 20 ?_
    exact And.intro (fun _ => hp) (fun c => absurd (by decide) c)
  | succ d ih =>
    intro k hk
    refine e_walk (stops := [18]) 20 ?_
    refine And.intro (fun c => absurd c (nI_ge (a := k) (b := 19) (by omega) (by decide))) (fun _ => ?_)
    refine q_X4_countNumber hi hB hs (by omega) ?_
    refine e_walk (stops := [22]) 20 ?_
    refine q_X4_mix ?_
    refine e_walk (stops := [6]) 20 ?_
    show e_Run tb_X4_digest post e_no 6 [some (aR 0 0), some (aL (q_fold (fun w => (q_cTold v np sn w).toInt64) (k + 1) 3733)), none, some (aI (nI k + 1))] [] S 64 4480
    rw [nI_1]
    exact ih (k + 1) (by omega)
theorem q_dh_4 {h : Int64} (hi : q_inv B v np ni nl) (hB : q_B S 0 v np ni nl) (hp : e_Run tb_X4_digest post e_no 74 [some (aR 0 0), some (aL (q_fold (fun k => (q_lTold v k).toInt64) nl h)), none, some (aI (nI nl))] [] S 64 4480) : ∀ d k, k + d = nl → e_Run tb_X4_digest post e_no 43 [some (aR 0 0), some (aL (q_fold (fun k => (q_lTold v k).toInt64) k h)), none, some (aI (nI k))] [] S 64 4480 := by
  have hnl := hi.1.2.2.1
  intro d
  induction d with
  | zero =>
    intro k hk
    obtain rfl : k = nl := by omega
    refine e_walk (stops := [51]) 20 ?_
    show e_Run tb_X4_digest post e_no 51 [some (aR 0 0), some (aL (q_fold (fun k => (q_lTold v k).toInt64) k h)), none, some (aI (nI k))] [aI (mI S 1 0 5), aI (nI k)] S 64 4480
    rw [hB.1.2.2.1]
    refine e_walk (stops := [74]) 20 ?_
    exact And.intro (fun _ => hp) (fun c => absurd (nI_le (a := k) (b := k) (by omega) (by omega)) c)
  | succ d ih =>
    intro k hk
    refine e_walk (stops := [51]) 20 ?_
    show e_Run tb_X4_digest post e_no 51 [some (aR 0 0), some (aL (q_fold (fun k => (q_lTold v k).toInt64) k h)), none, some (aI (nI k))] [aI (mI S 1 0 5), aI (nI k)] S 64 4480
    rw [hB.1.2.2.1]
    refine e_walk (stops := [63]) 20 ?_
    refine And.intro (fun c => absurd c (nI_ge (a := k) (b := nl) (by omega) (by omega))) (fun _ => ?_)
    refine q_X0_loanAt hi hB (by omega) ?_
    refine e_walk (stops := [67]) 20 ?_
    refine q_X4_mix ?_
    refine e_walk (stops := [43]) 20 ?_
    show e_Run tb_X4_digest post e_no 43 [some (aR 0 0), some (aL (q_fold (fun k => (q_lTold v k).toInt64) (k + 1) h)), none, some (aI (nI k + 1))] [] S 64 4480
    rw [nI_1]
    exact ih (k + 1) (by omega)
/-- .. of the marches so far -/
def q_hms (v : qV) (np : Nat) : Nat → Int64 → Int64
  | 0, x => x
  | n + 1, x => q_hm v n np (q_hms v np n x)
theorem q_dh_5 {io lo : Nat} {g : Nat → Int32} {x : Int64} (hi : q_inv B v np ni nl) (hp : ∀ S2 i2 f n, q_g S S2 → q_B S2 0 v np ni nl → i2 ≠ io → q_T1 S2 0 i2 f n → q_T1 S2 1 io g lo → e_Run tb_X4_digest post e_no 94 [some (aR 0 0), some (aL (q_hms v np 4 x)), none, some (aI 4)] [] S2 0 0) : ∀ d k, k + d = 4 → ∀ S2 i2 f n bc bs, q_g S S2 → q_B S2 0 v np ni nl → i2 ≠ io → q_T1 S2 0 i2 f n → q_T1 S2 1 io g lo → bc = 16 * d → bs = 1120 * d → e_Run tb_X4_digest post e_no 76 [some (aR 0 0), some (aL (q_hms v np k x)), none, some (aI (nI k))] [] S2 bc bs := by
  intro d
  induction d with
  | zero =>
    intro k hk S2 i2 f n bc bs g2 hB2 hi2 hT2 hO2 hbc hbs
    obtain rfl : k = 4 := by omega
    obtain rfl : bc = 0 := by omega
    obtain rfl : bs = 0 := by omega
    refine e_walk (stops := [94]) 20 ?_
    exact And.intro (fun _ => hp S2 i2 f n g2 hB2 hi2 hT2 hO2) (fun c => absurd (by decide) c)
  | succ d ih =>
    intro k hk S2 i2 f n bc bs g2 hB2 hi2 hT2 hO2 hbc hbs
    refine e_walk (stops := [87]) 20 ?_
    refine And.intro (fun c => absurd c (nI_ge (a := k) (b := 4) (by omega) (by decide))) (fun _ => And.intro (by omega) (And.intro (by omega) ?_))
    refine q_X4_mixMarch hi hB2 (by omega) hT2 hO2 hi2 (fun S3 i3 g3 hi3 hT3 hO3 => ?_)
    refine e_walk (stops := [76]) 20 ?_
    show e_Run tb_X4_digest post e_no 76 [some (aR 0 0), some (aL (q_hms v np (k + 1) x)), none, some (aI (nI k + 1))] [] S3 (bc - 16) (bs - 1120)
    rw [nI_1]
    exact ih (k + 1) (by omega) S3 i3 _ _ _ _ (g2.trans g3) (hB2.g g3) hi3 hT3 hO3 (by omega) (by omega)
theorem q_dh_6 {io lo : Nat} {g : Nat → Int32} {x : Int64} (hO : q_T1 S 1 io g lo) (hp : post (some (aL (q_fold (fun k => (g k).toInt64) lo x))) S) : ∀ d k, k + d = lo → e_Run tb_X4_digest post e_no 131 [some (aR 0 0), some (aL (q_fold (fun k => (g k).toInt64) k x)), none, some (aI (nI k))] [] S 0 0 := by
  have h70 : lo ≤ 70 := by have := hO.2.2.2.1; omega
  intro d
  induction d with
  | zero =>
    intro k hk
    obtain rfl : k = lo := by omega
    refine e_walk (stops := [139]) 20 ?_
    refine q_X3_length hO ?_
    refine e_walk (stops := []) 20 ?_
    exact And.intro (fun _ => hp) (fun c => absurd (nI_le (a := k) (b := k) (by omega) (by omega)) c)
  | succ d ih =>
    intro k hk
    refine e_walk (stops := [139]) 20 ?_
    refine q_X3_length hO ?_
    refine e_walk (stops := [151]) 20 ?_
    refine And.intro (fun c => absurd c (nI_ge (a := k) (b := lo) (by omega) (by omega))) (fun _ => ?_)
    have fin : e_Run tb_X4_digest post e_no 151 [some (aR 0 0), some (aL (q_fold (fun k => (g k).toInt64) k x)), none, some (aI (nI k))] [aI (g k), aL (q_fold (fun k => (g k).toInt64) k x)] S 0 0 := by
      refine e_walk (stops := [155]) 20 ?_
      refine q_X4_mix ?_
      refine e_walk (stops := [131]) 20 ?_
      show e_Run tb_X4_digest post e_no 131 [some (aR 0 0), some (aL (q_fold (fun k => (g k).toInt64) (k + 1) x)), none, some (aI (nI k + 1))] [] S 0 0
      rw [nI_1]
      exact ih (k + 1) (by omega)
    refine q_X3_signAt hO (fun j hj e => ?_) (fun e => absurd e (by rw [q_ix_mk (by omega) (show k < lo by omega)]; decide))
    have : k = j := (nI_eq (by omega) (by omega)).mp e
    subst this
    exact fin
theorem q_dj_6 {io lo : Nat} {g : Nat → Int32} {x : Int64} (hO : q_T1 S 1 io g lo) (h : post (some (aL (q_fold (fun k => (g k).toInt64) lo (q_mx x (nI lo).toInt64)))) S) : e_Run tb_X4_digest post e_no 116 [some (aR 0 0), some (aL x), none, some (aI 4)] [] S 0 0 := by
  refine e_walk (stops := [124]) 20 ?_
  refine q_X3_length hO ?_
  refine e_walk (stops := [128]) 20 ?_
  refine q_X4_mix ?_
  refine e_walk (stops := [131]) 20 ?_
  show e_Run tb_X4_digest post e_no 131 [some (aR 0 0), some (aL (q_mx x (nI lo).toInt64)), none, some (aI (nI 0))] [] S 0 0
  exact q_dh_6 hO h lo 0 (by omega)
theorem q_dj_5 {mm ss : Nat} {x : Int64} (hi : q_inv B v np ni nl) (hB : q_B S 0 v np ni nl) (h6 : v 6 = nI mm) (h7 : v 7 = nI ss) (hs : ss ≤ 4 * mm) (hm : 4 * mm < 2 ^ 20) (h : ∀ S2, q_f1 9 0 S S2 → e_Run tb_X4_digest post e_no 116 [some (aR 0 0), some (aL (q_mx (q_mx x (nI (q_bs v np 4)).toInt64) (q_bits (q_shr mm ss)))), none, some (aI 4)] [] S2 0 0) : e_Run tb_X4_digest post e_no 94 [some (aR 0 0), some (aL x), none, some (aI 4)] [] S 0 0 := by
  refine e_walk (stops := [99]) 20 ?_
  refine q_X4_bestMarch hi.ok0 hi.lips hB (fun S3 f3 => ?_)
  have h := h S3 f3
  refine e_walk (stops := [103]) 20 ?_
  refine q_X4_mix ?_
  generalize (nI (q_bs v np 4)).toInt64 = y at *
  refine e_walk (stops := [104]) 20 ?_
  show e_Run tb_X4_digest post e_no 104 [some (aR 0 0), some (aL (q_mx x y)), none, some (aI 4)] [] S3 0 0
  generalize q_mx x y = x6 at *
  refine e_walk (stops := [109]) 20 ?_
  refine q_X4_played (hB.f9 f3) h6 h7 hs hm ?_
  refine e_walk (stops := [112]) 20 ?_
  refine q_X4_bitsOfShare (q_shr_is hm) ?_
  generalize q_bits (q_shr mm ss) = z at *
  refine e_walk (stops := [115]) 20 ?_
  refine q_X4_mix ?_
  exact e_walk (stops := [116]) 20 h
theorem q_dj_2 {x : Int64} {n : Nat} (hi : q_inv B v np ni nl) (hB : q_B S 0 v np ni nl) (h : e_Run tb_X4_digest post e_no 74 [some (aR 0 0), some (aL (q_fold (fun k => (q_lTold v k).toInt64) nl (q_fold (fun k => (q_iTold v (k / 6) (k % 6)).toInt64) (6 * ni) (q_fold (q_pg v) (10 * np) x)))), none, some (aI (nI nl))] [] S 64 4480) : e_Run tb_X4_digest post e_no 29 [some (aR 0 0), some (aL x), none, some (aI (nI n))] [] S 64 4480 := by
  refine e_walk (stops := [34]) 20 ?_
  refine q_X4_mixPupils hi hB ?_
  generalize q_fold (q_pg v) (10 * np) x = x2 at *
  refine e_walk (stops := [40]) 20 ?_
  refine q_X4_mixInstruments hi hB ?_
  generalize q_fold (fun k => (q_iTold v (k / 6) (k % 6)).toInt64) (6 * ni) x2 = x3 at *
  refine e_walk (stops := [43]) 20 ?_
  show e_Run tb_X4_digest post e_no 43 [some (aR 0 0), some (aL x3), none, some (aI (nI 0))] [] S 64 4480
  exact q_dh_4 hi hB h nl 0 (by omega)
theorem q_dj_1 {sn : Nat} (hi : q_inv B v np ni nl) (hB : q_B S 0 v np ni nl) (hs : mI S 0 0 4 = nI sn) (h : e_Run tb_X4_digest post e_no 29 [some (aR 0 0), some (aL (q_fold (fun w => (q_cTold v np sn w).toInt64) 19 3733)), none, some (aI (nI 19))] [] S 64 4480) : w_X4_digest [aR 0 0] S post := by
  refine e_walk (stops := [6]) 20 ?_
  show e_Run tb_X4_digest post e_no 6 [some (aR 0 0), some (aL 3733), none, some (aI (nI 0))] [] S 64 4480
  exact q_dh_1 hi hB hs h 19 0 rfl
theorem q_hms4 {x : Int64} : q_hm v 3 np (q_hm v 2 np (q_hm v 1 np (q_hm v 0 np x))) = q_hms v np 4 x := by simp only [q_hms]
theorem q_X4_digest {i io ln lo sn mm ss : Nat} {f g : Nat → Int32} (hi : q_inv B v np ni nl) (hB : q_B S 0 v np ni nl) (hT : q_T1 S 0 i f ln) (hO : q_T1 S 1 io g lo) (hio : i ≠ io) (hsn : mI S 0 0 4 = nI sn) (h6 : v 6 = nI mm) (h7 : v 7 = nI ss) (hs : ss ≤ 4 * mm) (hm : 4 * mm < 2 ^ 20) (h : ∀ S2 i2 f n, q_g S S2 → i2 ≠ io → q_T1 S2 0 i2 f n → q_T1 S2 1 io g lo → post (some (aL (q_dig v np ni nl sn mm ss g lo))) S2) : w_X4_digest [aR 0 0] S post := by
  refine q_dj_1 hi hB hsn (q_dj_2 hi hB ?_)
  unfold q_dig at h
  simp only [q_hms4] at h
  generalize q_fold (fun k => (q_lTold v k).toInt64) nl (q_fold (fun k => (q_iTold v (k / 6) (k % 6)).toInt64) (6 * ni) (q_fold (q_pg v) (10 * np) (q_fold (fun w => (q_cTold v np sn w).toInt64) 19 3733))) = x4 at *
  refine e_walk (stops := [76]) 20 ?_
  show e_Run tb_X4_digest post e_no 76 [some (aR 0 0), some (aL x4), none, some (aI (nI 0))] [] S 64 4480
  refine q_dh_5 (S := S) hi (fun S2 i2 f2 n2 g2 hB2 hi2 hT2 hO2 => ?_) 4 0 rfl S i f ln 64 4480 q_g.rf hB hio hT hO rfl rfl
  generalize q_hms v np 4 x4 = x5 at *
  refine q_dj_5 hi hB2 h6 h7 hs hm (fun S3 f3 => ?_)
  exact q_dj_6 (hO2.f9 f3) (h S3 i2 f2 n2 (g2.trans (q_g.f9 f3)) hi2 (hT2.f9 f3) (hO2.f9 f3))
end Dig2
