/-! The law: a line-up as a text tells its parts. Own work (wip/p35/laws). -/
section LawText
variable {S S1 S2 : eM} {post : eQ} {v v2 : qV} {n np ni nl : Nat} {d : z_D}
/-- behind the comma: one part of the text, from 93 on -/
theorem L_text1 {m k : Nat} (hi : q_inv n v np ni nl) (hm : m < 4) (hk : k < 4) (ih : ∀ (S1 : eM) (l4 l5 l6 : Option eV) (bc bs : Nat), z_Y n S1 v d → 66 * (3 - k) + 32 ≤ bc → 4236 * (3 - k) + 2112 ≤ bs → e_Run tb_L_isText post e_no 4 [some (aR 0 0), some (aI (nI m)), some (aI (nI (z_at m (k + 1)))), some (aI (nI (k + 1))), l4, l5, l6] [] S1 bc bs) (hY : z_Y n S v d) (l6 : Option eV) (bc bs : Nat) (hb : 66 * (3 - k) + 64 ≤ bc) (hs : 4236 * (3 - k) + 4224 ≤ bs) : e_Run tb_L_isText post e_no 93 [some (aR 0 0), some (aI (nI m)), some (aI (nI (z_at m k))), some (aI (nI k)), some (aI (nI (q_kf m k))), some (aI (q_pl v m np k)), l6] [] S bc bs := by
  have hnp := hi.1.1
  have hat := z_at_le m hm k (by omega)
  have hkf : q_kf m k < 4 := Nat.mod_lt _ (by decide)
  have hnl : q_nl (q_kf m k) ≤ 8 := by
    have : ∀ c, c < 4 → q_nl c ≤ 8 := by decide
    exact this _ hkf
  have mid : ∀ S1, z_Y n S1 v d → e_Run tb_L_isText post e_no 118 [some (aR 0 0), some (aI (nI m)), some (aI (nI (z_at m k + q_nl (q_kf m k)))), some (aI (nI k)), some (aI (nI (q_kf m k))), some (aI (q_pl v m np k)), l6] [] S1 bc bs := by
    intro S1 hY
    refine e_walk (stops := [124]) 60 ?_
    refine And.intro (by omega) (And.intro (by omega) ?_)
    refine m_told (k := z_at m k + q_nl (q_kf m k)) (r := 58) hY hi hm (by omega) (z_at_b hk) (fun S2 hY => ?_)
    rcases q_pl_could v m np k with y | ⟨p, y1, y2, y3⟩
    · refine e_walk (stops := [133]) 60 ?_
      refine And.intro (fun _ => ?_) (fun z => absurd (by decide) z)
      show e_Run tb_L_isText post e_no 133 [some (aR 0 0), some (aI (nI m)), some (aI (nI (z_at m k + q_nl (q_kf m k)))), some (aI (nI k)), some (aI (nI (q_kf m k))), some (aI (q_pl v m np k)), l6] [aI 1, aI (nI (z_at m k + q_nl (q_kf m k))), aI (nI m), aR 0 0] S2 _ _
      refine e_walk (stops := [134]) 1 ?_
      show e_Run tb_L_isText post e_no 134 [some (aR 0 0), some (aI (nI m)), some (aI (nI (z_at m k + q_nl (q_kf m k)))), some (aI (nI k)), some (aI (nI (q_kf m k))), some (aI (q_pl v m np k)), l6] [aI (nI (z_at m k + q_nl (q_kf m k)) + 1), aI (nI m), aR 0 0] S2 _ _
      rw [nI_1, y]
      refine e_walk (stops := [137]) 60 ?_
      refine And.intro (by omega) (And.intro (by omega) ?_)
      refine m_told (k := z_at m k + q_nl (q_kf m k) + 1) (r := 45) hY hi hm (by omega) (by rw [z_at_c hk, if_pos y]) (fun S3 hY => ?_)
      refine e_walk (stops := [4]) 60 ?_
      refine And.intro (fun z => absurd z (by decide)) (fun _ => ?_)
      refine And.intro (fun _ => ?_) (fun z => absurd (rfl) z)
      show e_Run tb_L_isText post e_no 4 [some (aR 0 0), some (aI (nI m)), some (aI (nI (z_at m k + q_nl (q_kf m k)) + nI 3)), some (aI (nI k + 1)), some (aI (nI (q_kf m k))), some (aI (-1)), l6] [] S3 _ _
      rw [nI_add, nI_1]
      exact ih S3 _ _ _ _ _ hY (by omega) (by omega)
    · refine e_walk (stops := [133]) 60 ?_
      refine And.intro (fun _ => ?_) (fun z => absurd (by decide) z)
      show e_Run tb_L_isText post e_no 133 [some (aR 0 0), some (aI (nI m)), some (aI (nI (z_at m k + q_nl (q_kf m k)))), some (aI (nI k)), some (aI (nI (q_kf m k))), some (aI (q_pl v m np k)), l6] [aI 1, aI (nI (z_at m k + q_nl (q_kf m k))), aI (nI m), aR 0 0] S2 _ _
      refine e_walk (stops := [134]) 1 ?_
      show e_Run tb_L_isText post e_no 134 [some (aR 0 0), some (aI (nI m)), some (aI (nI (z_at m k + q_nl (q_kf m k)))), some (aI (nI k)), some (aI (nI (q_kf m k))), some (aI (q_pl v m np k)), l6] [aI (nI (z_at m k + q_nl (q_kf m k)) + 1), aI (nI m), aR 0 0] S2 _ _
      rw [nI_1, y2]
      refine e_walk (stops := [137]) 60 ?_
      refine And.intro (by omega) (And.intro (by omega) ?_)
      refine m_told (k := z_at m k + q_nl (q_kf m k) + 1) (r := 48 + nI p) hY hi hm (by omega) (by rw [z_at_c hk, y2, if_neg (q_nIne (by omega))]) (fun S3 hY => ?_)
      refine e_walk (stops := [4]) 60 ?_
      refine And.intro (fun _ => ?_) (fun z => absurd (nI_pos' (by omega)) z)
      refine And.intro (fun _ => ?_) (fun z => absurd (rfl) z)
      show e_Run tb_L_isText post e_no 4 [some (aR 0 0), some (aI (nI m)), some (aI (nI (z_at m k + q_nl (q_kf m k)) + nI 3)), some (aI (nI k + 1)), some (aI (nI (q_kf m k))), some (aI (nI p)), l6] [] S3 _ _
      rw [nI_add, nI_1]
      exact ih S3 _ _ _ _ _ hY (by omega) (by omega)
  have go : ∀ c, q_kf m k = c → c < 4 → e_Run tb_L_isText post e_no 93 [some (aR 0 0), some (aI (nI m)), some (aI (nI (z_at m k))), some (aI (nI k)), some (aI (nI c)), some (aI (q_pl v m np k)), l6] [] S bc bs := by
    intro c e hc
    rw [e] at mid
    rcases (show c = 0 ∨ c = 1 ∨ c = 2 ∨ c = 3 by omega) with rfl | rfl | rfl | rfl
    · refine e_walk (stops := [118]) 60 ?_
      refine And.intro (fun _ => ?_) (fun z => absurd (rfl) z)
      show e_Run tb_L_isText post e_no 118 [some (aR 0 0), some (aI (nI m)), some (aI (nI (z_at m k) + nI 6)), some (aI (nI k)), some (aI (nI 0)), some (aI (q_pl v m np k)), l6] [] S bc bs
      rw [nI_add]
      exact mid S hY
    · refine e_walk (stops := [118]) 60 ?_
      refine And.intro (fun z => absurd z (by decide)) (fun _ => ?_)
      refine And.intro (fun z => absurd z (by decide)) (fun _ => ?_)
      show e_Run tb_L_isText post e_no 118 [some (aR 0 0), some (aI (nI m)), some (aI (nI (z_at m k) + nI 4)), some (aI (nI k)), some (aI (nI 1)), some (aI (q_pl v m np k)), l6] [] S bc bs
      rw [nI_add]
      exact mid S hY
    · refine e_walk (stops := [118]) 60 ?_
      refine And.intro (fun z => absurd z (by decide)) (fun _ => ?_)
      refine And.intro (fun _ => ?_) (fun z => absurd (rfl) z)
      show e_Run tb_L_isText post e_no 118 [some (aR 0 0), some (aI (nI m)), some (aI (nI (z_at m k) + nI 8)), some (aI (nI k)), some (aI (nI 2)), some (aI (q_pl v m np k)), l6] [] S bc bs
      rw [nI_add]
      exact mid S hY
    · refine e_walk (stops := [118]) 60 ?_
      refine And.intro (fun z => absurd z (by decide)) (fun _ => ?_)
      refine And.intro (fun z => absurd z (by decide)) (fun _ => ?_)
      show e_Run tb_L_isText post e_no 118 [some (aR 0 0), some (aI (nI m)), some (aI (nI (z_at m k) + nI 4)), some (aI (nI k)), some (aI (nI 3)), some (aI (q_pl v m np k)), l6] [] S bc bs
      rw [nI_add]
      exact mid S hY
  exact go _ rfl hkf
theorem L_isText {m : Nat} (hY : z_Y n S v d) (hi : q_inv n v np ni nl) (hm : m < 4) (h : ∀ S2, z_Y n S2 v d → post (some (aI 1)) S2) : w_L_isText [aR 0 0, aI (nI m)] S post := by
  have hnp := hi.1.1
  have h35 := q_tl_35 m hm
  have loop : ∀ c k, k + c = 4 → ∀ (S1 : eM) (l4 l5 l6 : Option eV) (bc bs : Nat), z_Y n S1 v d → 66 * c + 32 ≤ bc → 4236 * c + 2112 ≤ bs → e_Run tb_L_isText post e_no 4 [some (aR 0 0), some (aI (nI m)), some (aI (nI (z_at m k))), some (aI (nI k)), l4, l5, l6] [] S1 bc bs := by
    intro c
    induction c with
    | zero =>
      intro k hk S1 l4 l5 l6 bc bs hY hb hs
      obtain rfl : k = 4 := by omega
      rw [z_at_4 m hm]
      refine e_walk (stops := [170]) 60 ?_
      refine And.intro (fun _ => ?_) (fun z => absurd (by decide) z)
      show e_Run tb_L_isText post e_no 170 [some (aR 0 0), some (aI (nI m)), some (aI (nI (q_tl m 4 0 + 1))), some (aI (nI 4)), l4, l5, l6] [aI 1, aI (nI (q_tl m 4 0 + 1)), aI (nI m), aR 0 0] S1 bc bs
      refine e_walk (stops := [171]) 1 ?_
      show e_Run tb_L_isText post e_no 171 [some (aR 0 0), some (aI (nI m)), some (aI (nI (q_tl m 4 0 + 1))), some (aI (nI 4)), l4, l5, l6] [aI (nI (q_tl m 4 0 + 1) - 1), aI (nI m), aR 0 0] S1 bc bs
      rw [nI_pred]
      refine e_walk (stops := [174]) 60 ?_
      refine And.intro (by omega) (And.intro (by omega) ?_)
      refine m_told (k := q_tl m 4 0) (r := -1) hY hi hm (by omega) ((q_ch_end hnp 4 0 _ rfl).mpr (Nat.le_refl _)) (fun S2 hY => ?_)
      refine e_walk (stops := [184]) 60 ?_
      refine And.intro (fun _ => ?_) (fun z => absurd (rfl) z)
      refine And.intro (by omega) (And.intro (by omega) ?_)
      refine m_told (k := q_tl m 4 0 + 1) (r := -1) hY hi hm (by omega) ((q_ch_end hnp 4 0 _ rfl).mpr (Nat.le_succ _)) (fun S3 hY => ?_)
      refine e_walk (stops := []) 60 ?_
      exact And.intro (fun _ => h S3 hY) (fun z => absurd rfl z)
    | succ c ih =>
      intro k hk S1 l4 l5 l6 bc bs hY hb hs
      have hat := z_at_le m hm k (by omega)
      have hkf : q_kf m k < 4 := Nat.mod_lt _ (by decide)
      have nx := ih (k + 1) (by omega)
      rw [show c = 3 - k by omega] at nx
      refine e_walk (stops := [16]) 60 ?_
      refine And.intro (fun z => absurd z (nI_ge (a := k) (b := 4) (by omega) (by decide))) (fun _ => ?_)
      refine And.intro (by omega) (And.intro (by omega) ?_)
      refine m_part (w := 0) (r := nI (q_kf m k)) hY hi hm (by omega) (by decide) rfl (fun S2 hY => ?_)
      refine e_walk (stops := [25]) 60 ?_
      refine And.intro (by omega) (And.intro (by omega) ?_)
      refine m_part (w := 3) (r := q_pl v m np k) hY hi hm (by omega) (by decide) rfl (fun S3 hY => ?_)
      have first : ∀ x, q_lt (q_kf m k) 0 = x → e_Run tb_L_isText post e_no 63 [some (aR 0 0), some (aI (nI m)), some (aI (nI (z_at m k))), some (aI (nI k)), some (aI (nI (q_kf m k))), some (aI (q_pl v m np k)), some (aI x)] [] S3 (bc - 1 - 1) (bs - 6 - 6) := by
        intro x ex
        refine e_walk (stops := [69]) 60 ?_
        refine And.intro (by omega) (And.intro (by omega) ?_)
        refine m_told (k := z_at m k) (r := x) hY hi hm (by omega) (by rw [z_at_a (by omega), ex]) (fun S4 hY => ?_)
        by_cases k0 : k = 0
        · subst k0
          refine e_walk (stops := [93]) 60 ?_
          refine And.intro (fun _ => ?_) (fun z => absurd (rfl) z)
          refine And.intro (fun _ => ?_) (fun z => absurd (by decide) z)
          exact L_text1 hi hm (by omega) nx hY _ _ _ (by omega) (by omega)
        · refine e_walk (stops := [81]) 60 ?_
          refine And.intro (fun _ => ?_) (fun z => absurd (rfl) z)
          refine And.intro (fun z => absurd z (nI_nle (by omega) (by omega))) (fun _ => ?_)
          show e_Run tb_L_isText post e_no 81 [some (aR 0 0), some (aI (nI m)), some (aI (nI (z_at m k))), some (aI (nI k)), some (aI (nI (q_kf m k))), some (aI (q_pl v m np k)), some (aI x)] [aI (nI (z_at m k)), aI (nI m), aR 0 0] S4 _ _
          obtain ⟨j, rfl⟩ : ∃ j, k = j + 1 := ⟨k - 1, by omega⟩
          have hz : z_at m (j + 1) = z_at m (j + 1) - 1 + 1 := by
            have : z_at m (j + 1) = z_at m j + q_nl (q_kf m j) + 3 := rfl
            omega
          refine e_walk (stops := [83]) 2 ?_
          show e_Run tb_L_isText post e_no 83 [some (aR 0 0), some (aI (nI m)), some (aI (nI (z_at m (j + 1)))), some (aI (nI (j + 1))), some (aI (nI (q_kf m (j + 1)))), some (aI (q_pl v m np (j + 1))), some (aI x)] [aI (nI (z_at m (j + 1)) - 1), aI (nI m), aR 0 0] S4 _ _
          rw [show nI (z_at m (j + 1)) - 1 = nI (z_at m (j + 1) - 1) by rw [hz, nI_pred]; rfl]
          refine e_walk (stops := [86]) 60 ?_
          refine And.intro (by omega) (And.intro (by omega) ?_)
          refine m_told (k := z_at m (j + 1) - 1) (r := 44) hY hi hm (by omega) (z_at_44 (by omega)) (fun S5 hY => ?_)
          refine e_walk (stops := [93]) 60 ?_
          refine And.intro (fun _ => ?_) (fun z => absurd (by decide) z)
          exact L_text1 hi hm (by omega) nx hY _ _ _ (by omega) (by omega)
      have go : ∀ c, q_kf m k = c → c < 4 → e_Run tb_L_isText post e_no 25 [some (aR 0 0), some (aI (nI m)), some (aI (nI (z_at m k))), some (aI (nI k)), some (aI (nI c)), l5, l6] [aI (q_pl v m np k)] S3 (bc - 1 - 1) (bs - 6 - 6) := by
        intro c e hc
        rw [e] at first
        rcases (show c = 0 ∨ c = 1 ∨ c = 2 ∨ c = 3 by omega) with rfl | rfl | rfl | rfl
        · refine e_walk (stops := [63]) 60 ?_
          refine And.intro (fun _ => ?_) (fun z => absurd (rfl) z)
          exact first 99 (by decide)
        · refine e_walk (stops := [63]) 60 ?_
          refine And.intro (fun z => absurd z (by decide)) (fun _ => ?_)
          refine And.intro (fun _ => ?_) (fun z => absurd (rfl) z)
          exact first 104 (by decide)
        · refine e_walk (stops := [63]) 60 ?_
          refine And.intro (fun z => absurd z (by decide)) (fun _ => ?_)
          refine And.intro (fun z => absurd z (by decide)) (fun _ => ?_)
          refine And.intro (fun _ => ?_) (fun z => absurd (rfl) z)
          exact first 98 (by decide)
        · refine e_walk (stops := [63]) 60 ?_
          refine And.intro (fun z => absurd z (by decide)) (fun _ => ?_)
          refine And.intro (fun z => absurd z (by decide)) (fun _ => ?_)
          refine And.intro (fun z => absurd z (by decide)) (fun _ => ?_)
          exact first 116 (by decide)
      exact go _ rfl hkf
  refine e_walk (stops := [4]) 60 ?_
  exact loop 4 0 rfl S none none none _ _ hY (by decide) (by decide)
end LawText
