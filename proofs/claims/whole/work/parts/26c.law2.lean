/-! the law: its loop, its beginning -/
theorem lp_law {d : Nat} {K : List Value → zS → Prop} {sc : Nat → Int32} {ln : Nat} (hln : ln ≤ 2048) (hK : ∀ m, K [.int 1] (zG m)) : ∀ (c b : Nat) (m1 : zM), b + c = ln / 4 → zInv sc ln b m1 → wx (d + 81) mL_law 18 [some .null, some (.ref 0), some (.ref 128), some (.int (nI (4 * b)))] [] (zG m1) K := by
  intro c
  induction c with
  | zero =>
    intro b m1 hc hv
    obtain ⟨n, hI⟩ := hv
    have hl : (m1 155 0).toNatClampNeg = ln := by rw [hI.2.2.2.2.2.2.2.2.2]; exact nI_clamp (by omega)
    refine wx_iload_n (i := 3) dL_law_18 rfl rfl ?_
    refine wx_aloads_n (i := 0) dL_law_19 rfl rfl ?_
    refine wx_slenN dL_law_20 hl ?_
    refine wx_iconst (v := 4) dL_law_21 (by decide) ?_
    refine wx_isub dL_law_22 ?_
    refine wx_icmp_gt (tgt := 1045) dL_law_23 (by decide) (fun h23 => ?_) (fun h23 => ?_)
    · skip
      refine wx_iconst (v := 1) dL_law_1045 (by decide) ?_
      refine wx_iret dL_law_1046 rfl rfl (Or.inr rfl) ?_
      exact hK m1
    · exact absurd (show nI ln - 4 < nI (4 * b) by rw [zl_4, zi_nI, zi_nI, zi_sub, zi_lt (by omega) (by omega)]; omega) h23 --end
  | succ c ih =>
    intro b m1 hc hv
    obtain ⟨n, hI⟩ := hv
    have hl : (m1 155 0).toNatClampNeg = ln := by rw [hI.2.2.2.2.2.2.2.2.2]; exact nI_clamp (by omega)
    have hb : b < 1000 := by omega
    have h4 : 4 * b + 4 ≤ ln := by omega
    have hnext : ∀ m3, zInv sc ln (b + 1) m3 → wx (d + 81) mL_law 1039 [some .null, some (.ref 0), some (.ref 128), some (.int (nI (4 * b)))] [] (zG m3) K := fun m3 h3 => by
      refine wx_inc (c := 4) dL_law_1039 rfl (by decide) (Nat.le_of_ble_eq_true rfl) rfl ?_
      refine wx_goto (tgt := 18) dL_law_1042 (by decide) ?_
      rw [show nI (4 * b) + 4 = nI (4 * (b + 1)) from by rw [show (4 : Int32) = nI 4 from rfl, nI_add]; rfl]
      exact ih (b + 1) m3 (by omega) h3
    refine wx_iload_n (i := 3) dL_law_18 rfl rfl ?_
    refine wx_aloads_n (i := 0) dL_law_19 rfl rfl ?_
    refine wx_slenN dL_law_20 hl ?_
    refine wx_iconst (v := 4) dL_law_21 (by decide) ?_
    refine wx_isub dL_law_22 ?_
    refine wx_icmp_gt (tgt := 1045) dL_law_23 (by decide) (fun h23 => ?_) (fun h23 => ?_)
    · rw [zl_4, zi_nI, zi_nI, zi_sub, zi_lt (by omega) (by omega)] at h23
      exact absurd h23 (by omega) --end
    · skip
      refine wx_aloads_n (i := 0) dL_law_26 rfl rfl ?_
      refine wx_iload_n (i := 3) dL_law_27 rfl rfl ?_
      refine wx_sldG (j := 4 * b) (n := ln) dL_law_28 rfl hl (by omega) (by omega) ?_
      refine wx_bipush (v := 31) dL_law_29 (by decide) ?_
      refine wx_iand dL_law_31 ?_
      obtain ⟨k, hk, hke⟩ := zAnd31 (m1 154 (4 * b))
      rw [hke]
      rcases (by omega : k = 0 ∨ k = 1 ∨ k = 2 ∨ k = 3 ∨ k = 4 ∨ k = 5 ∨ k = 6 ∨ k = 7 ∨ k = 8 ∨ k = 9 ∨ k = 10 ∨ k = 11 ∨ k = 12 ∨ k = 13 ∨ k = 14 ∨ k = 15 ∨ k = 16 ∨ k = 17 ∨ k = 18 ∨ k = 19 ∨ k = 20 ∨ k = 21 ∨ k = 22 ∨ k = 23 ∨ k = 24 ∨ k = 25 ∨ k = 26 ∨ k = 27 ∨ k = 28 ∨ k = 29 ∨ k = 30 ∨ k = 31) with rfl | rfl | rfl | rfl | rfl | rfl | rfl | rfl | rfl | rfl | rfl | rfl | rfl | rfl | rfl | rfl | rfl | rfl | rfl | rfl | rfl | rfl | rfl | rfl | rfl | rfl | rfl | rfl | rfl | rfl | rfl | rfl
      · refine wx_tableIn (off := 136) (tgt := 168) dL_law_32 (by decide) (by decide) (by decide) (by decide) ?_
        exact lw_disc hI hb hln h4 hnext
      · refine wx_tableIn (off := 159) (tgt := 191) dL_law_32 (by decide) (by decide) (by decide) (by decide) ?_
        exact lw_aim hI hb hln h4 hnext
      · refine wx_tableIn (off := 202) (tgt := 234) dL_law_32 (by decide) (by decide) (by decide) (by decide) ?_
        exact lw_depth hI hb hln h4 hnext
      · refine wx_tableIn (off := 236) (tgt := 268) dL_law_32 (by decide) (by decide) (by decide) (by decide) ?_
        exact lw_height hI hb hln h4 hnext
      · refine wx_tableIn (off := 269) (tgt := 301) dL_law_32 (by decide) (by decide) (by decide) (by decide) ?_
        exact lw_at hI hb hln h4 hnext
      · refine wx_tableIn (off := 292) (tgt := 324) dL_law_32 (by decide) (by decide) (by decide) (by decide) ?_
        exact lw_read hI hb hln h4 hnext
      · refine wx_tableIn (off := 335) (tgt := 367) dL_law_32 (by decide) (by decide) (by decide) (by decide) ?_
        exact lw_lie hI hb hln h4 hnext
      · refine wx_tableIn (off := 358) (tgt := 390) dL_law_32 (by decide) (by decide) (by decide) (by decide) ?_
        exact lw_joined hI hb hln h4 hnext
      · refine wx_tableIn (off := 381) (tgt := 413) dL_law_32 (by decide) (by decide) (by decide) (by decide) ?_
        exact lw_step hI hb hln h4 hnext
      · refine wx_tableIn (off := 404) (tgt := 436) dL_law_32 (by decide) (by decide) (by decide) (by decide) ?_
        exact lw_profile hI hb hln h4 hnext
      · refine wx_tableIn (off := 427) (tgt := 459) dL_law_32 (by decide) (by decide) (by decide) (by decide) ?_
        exact lw_wire hI hb hln h4 hnext
      · refine wx_tableIn (off := 470) (tgt := 502) dL_law_32 (by decide) (by decide) (by decide) (by decide) ?_
        exact lw_wires hI hb hln h4 hnext
      · refine wx_tableIn (off := 493) (tgt := 525) dL_law_32 (by decide) (by decide) (by decide) (by decide) ?_
        exact lw_pull hI hb hln h4 hnext
      · refine wx_tableIn (off := 536) (tgt := 568) dL_law_32 (by decide) (by decide) (by decide) (by decide) ?_
        exact lw_rest hI hb hln h4 hnext
      · refine wx_tableIn (off := 559) (tgt := 591) dL_law_32 (by decide) (by decide) (by decide) (by decide) ?_
        exact lw_stroke hI hb hln h4 hnext
      · refine wx_tableIn (off := 602) (tgt := 634) dL_law_32 (by decide) (by decide) (by decide) (by decide) ?_
        exact lw_undo hI hb hln h4 hnext
      · refine wx_tableIn (off := 615) (tgt := 647) dL_law_32 (by decide) (by decide) (by decide) (by decide) ?_
        exact lw_replay hI hb hln h4 hnext
      · refine wx_tableIn (off := 648) (tgt := 680) dL_law_32 (by decide) (by decide) (by decide) (by decide) ?_
        exact lw_plan hI hb hln h4 hnext
      · refine wx_tableIn (off := 681) (tgt := 713) dL_law_32 (by decide) (by decide) (by decide) (by decide) ?_
        exact lw_right hI hb hln h4 hnext
      · refine wx_tableIn (off := 704) (tgt := 736) dL_law_32 (by decide) (by decide) (by decide) (by decide) ?_
        exact lw_work hI hb hln h4 hnext
      · refine wx_tableIn (off := 727) (tgt := 759) dL_law_32 (by decide) (by decide) (by decide) (by decide) ?_
        exact lw_bend hI hb hln h4 hnext
      · refine wx_tableIn (off := 770) (tgt := 802) dL_law_32 (by decide) (by decide) (by decide) (by decide) ?_
        exact lw_bear hI hb hln h4 hnext
      · refine wx_tableIn (off := 793) (tgt := 825) dL_law_32 (by decide) (by decide) (by decide) (by decide) ?_
        exact lw_warm hI hb hln h4 hnext
      · refine wx_tableIn (off := 826) (tgt := 858) dL_law_32 (by decide) (by decide) (by decide) (by decide) ?_
        exact lw_cool hI hb hln h4 hnext
      · refine wx_tableIn (off := 849) (tgt := 881) dL_law_32 (by decide) (by decide) (by decide) (by decide) ?_
        exact lw_still hI hb hln h4 hnext
      · refine wx_tableIn (off := 872) (tgt := 904) dL_law_32 (by decide) (by decide) (by decide) (by decide) ?_
        exact lw_warmth hI hb hln h4 hnext
      · refine wx_tableIn (off := 895) (tgt := 927) dL_law_32 (by decide) (by decide) (by decide) (by decide) ?_
        exact lw_grit hI hb hln h4 hnext
      · refine wx_tableIn (off := 928) (tgt := 960) dL_law_32 (by decide) (by decide) (by decide) (by decide) ?_
        exact lw_slack hI hb hln h4 hnext
      · refine wx_tableIn (off := 951) (tgt := 983) dL_law_32 (by decide) (by decide) (by decide) (by decide) ?_
        exact lw_wets hI hb hln h4 hnext
      · refine wx_tableIn (off := 984) (tgt := 1016) dL_law_32 (by decide) (by decide) (by decide) (by decide) ?_
        exact lw_count hI hb hln h4 hnext
      · refine wx_tableOut (tgt := 1039) dL_law_32 (by decide) (by decide) ?_
        exact hnext m1 (zIn_0 hI hb)
      · refine wx_tableOut (tgt := 1039) dL_law_32 (by decide) (by decide) ?_
        exact hnext m1 (zIn_0 hI hb)
theorem zInit {sc : Nat → Int32} {ln : Nat} {mm2 mm3 : zM} (x0 : mm2 0 8 = 8) (x1 : (mm2 1 0 = 1000 ∧ mm2 1 1 = -1 ∧ mm2 1 2 = 1)) (x2 : (mm2 2 7 = 2 ∧ mm2 2 8 = 8 ∧ mm2 2 11 = 0 ∧ mm2 7 0 = 0 ∧ ∀ t i, t < 3 → i < 15 → mm2 (3 + 1 + t) i = 5000)) (x3 : mm2 13 4 = 0) (x4 : (mm2 17 7 = 8 ∧ mm2 17 8 = 0 ∧ mm2 17 9 = 10 ∧ mm2 17 10 = 0 ∧ ∀ k, 18 ≤ k → k < 88 → mm2 k = fun _ => 0)) (x5 : (∀ t, t < 3 → mm2 95 t = -1)) (x6 : (mm2 98 4 = 8 ∧ mm2 98 6 = 0 ∧ ∀ k, 99 ≤ k → k < 114 → mm2 k = fun _ => 0)) (x7 : (mm2 114 2 = 0 ∧ ∀ k, 115 ≤ k → k < 117 → mm2 k = fun _ => 0)) (x8 : (mm2 117 3 = 0 ∧ mm2 117 4 = 0 ∧ mm2 117 5 = 0 ∧ ∀ k, 118 ≤ k → k < 128 → mm2 k = fun _ => 0)) (m9 : ∀ k, ¬ (128 ≤ k ∧ k < 154) → mm3 k = mm2 k) (y0 : mm3 128 0 = 8) (y3 : mm3 128 3 = 1000) (y4 : mm3 128 4 = -1) (y5 : mm3 128 5 = 1) (y7 : mm3 128 7 = 2) (y8 : mm3 128 8 = 0) (y13 : mm3 128 13 = 10) (y14 : mm3 128 14 = 0) (y21 : mm3 128 21 = 0) (y24 : mm3 128 24 = 0) (ya : (∀ j, j < 45 → mm3 131 j = 5000)) (yz : (∀ k j, 129 ≤ k → k < 154 → k ≠ 131 → mm3 k j = 0)) (z1 : ∀ j, mm2 154 j = sc j) (z2 : mm2 155 0 = nI ln) : zIn sc ln 8 0 mm3 := by
  have e : ∀ k, k < 128 → mm3 k = mm2 k := fun k h => m9 k (by omega)
  obtain ⟨a1, a2, a3⟩ := x1
  obtain ⟨b1, b2, b3, b4, b5⟩ := x2
  obtain ⟨c1, c2, c3, c4, c5⟩ := x4
  obtain ⟨d1, d2, d3⟩ := x6
  obtain ⟨e1, e2⟩ := x7
  obtain ⟨f1, f2, f3, f4⟩ := x8
  refine ⟨⟨by omega, by omega, by omega, by rw [e 0 (by omega)]; exact x0, y0⟩, ⟨fun _ _ => 5000, 2, ⟨⟨fun _ _ => Or.inl rfl, by omega, by omega, by omega⟩, ⟨fun t i u v => ?_, ?_, ?_⟩, ?_, Or.inl ?_⟩, ⟨fun t i u v => ?_, y7, y0⟩, fun _ _ _ => rfl⟩, ⟨fun _ => 0, fun _ => 0, fun _ => 0, 0, ⟨by omega, fun k w => absurd w (Nat.not_lt_zero k)⟩, ⟨?_, fun k w => absurd w (Nat.not_lt_zero k)⟩, ⟨y8, fun k w => absurd w (Nat.not_lt_zero k)⟩⟩, ⟨⟨0, zBR_new (fun i hi => ?_) (fun i hi => ?_) (fun t e u v => ?_) ?_ ?_ y14⟩, ?_, 0, ?_, by omega, by omega, fun t ht => ⟨-1, ?_, by omega, by omega, fun w => absurd w (by decide)⟩⟩, ⟨fun _ _ => 0, ⟨⟨fun _ _ => show -500 ≤ (0 : Int) ∧ (0 : Int) ≤ 500 from by decide, by omega, by omega⟩, ⟨fun r z u v => ?_, ?_⟩, ⟨[], fun r hr => ?_⟩, Or.inl ?_⟩, ⟨fun r z u v => ?_, y0⟩, [], fun r hr => ?_⟩, ⟨fun _ => 0, 0, ⟨fun k _ => show -100000 ≤ (0 : Int) ∧ (0 : Int) ≤ 100000 from by decide, by decide, by decide⟩, fun j hj => ?_, ?_, fun j hj => ?_, ?_⟩, ⟨fun _ => 0, fun _ => 0, 0, 0, ⟨⟨by omega, ?_, fun k w => absurd w (Nat.not_lt_zero k)⟩, Or.inl ?_⟩, ⟨by omega, y21, fun k hk => ⟨?_, show (0 : Int) ≤ 0 from by decide, show (0 : Int) ≤ 200 from by decide⟩, fun k w => absurd w (Nat.not_lt_zero k)⟩, ?_, y24, by omega⟩, ⟨1000, -1, 1, by omega, by omega, by omega, ⟨?_, ?_, ?_⟩, y3, y4.trans zm_1, y5⟩, ⟨fun j => ?_, ?_⟩⟩
  · rw [e _ (by omega)]; exact b5 t i u v
  · rw [e 2 (by omega)]; exact b1
  · rw [e 2 (by omega)]; exact b2
  · rw [e 7 (by omega)]; exact b4
  · rw [e 2 (by omega)]; exact b3
  · exact ya _ (by omega)
  · rw [e 13 (by omega)]; exact x3
  · rw [e 18 (by omega), c5 18 (by omega) (by omega), yz 129 i (by omega) (by omega) (by omega)]
  · rw [e 19 (by omega), c5 19 (by omega) (by omega), yz 130 i (by omega) (by omega) (by omega)]
  · rw [‹∀ k, k < 128 → mm3 k = mm2 k› _ (by omega), c5 _ (by omega) (by omega), yz 135 _ (by omega) (by omega) (by omega)]
  · rw [e 17 (by omega), c3, y13]
  · rw [e 17 (by omega)]; exact c2
  · rw [e 17 (by omega)]; exact c1
  · rw [e 17 (by omega)]; exact c4
  · rw [e 95 (by omega)]; exact x5 t ht
  · rw [e _ (by omega), d3 _ (by omega) (by omega)]; rfl
  · rw [e 98 (by omega)]; exact d1
  · rw [e 113 (by omega), d3 _ (by omega) (by omega)]; rfl
  · rw [e 98 (by omega)]; exact d2
  · exact yz 140 _ (by omega) (by omega) (by omega)
  · exact yz 150 _ (by omega) (by omega) (by omega)
  · rw [e 115 (by omega), e2 _ (by omega) (by omega)]; rfl
  · rw [e 114 (by omega)]; exact e1
  · exact yz 141 _ (by omega) (by omega) (by omega)
  · exact yz 141 _ (by omega) (by omega) (by omega)
  · rw [e 117 (by omega)]; exact f1
  · rw [e 117 (by omega)]; exact f3
  · exact yz 143 _ (by omega) (by omega) (by omega)
  · rw [e 117 (by omega)]; exact f2
  · rw [e 1 (by omega)]; exact a1
  · rw [e 1 (by omega)]; exact a2
  · rw [e 1 (by omega)]; exact a3
  · rw [m9 154 (by omega)]; exact z1 j
  · rw [m9 155 (by omega)]; exact z2
theorem law_wx {d : Nat} {K : List Value → zS → Prop} {sc : Nat → Int32} {ln : Nat} (hln : ln ≤ 2048) {rf0 : zR} {mm0 : zM} (hN : zNo0 0 154 rf0 mm0) (hr2 : ∀ k, 154 ≤ k → rf0 k = fun _ => none) (h1 : ∀ j, mm0 154 j = sc j) (h2 : mm0 155 0 = nI ln) (hK : ∀ m, K [.int 1] (zG m)) : wx (d + 81) mL_law 0 [some .null, none, none, none] [] (0, rf0, mm0) K := by
  obtain ⟨hr, hm⟩ := id hN
  refine wx_newT (n0 := 0) (n1 := 1) dL_law_0 zNc_L_7 zKo_0 (by (try dsimp only); exact hr _ (by omega) (by omega)) (by (try dsimp only); exact hm _ (by omega) (by omega)) ⟨by decide, by decide, by decide, by decide⟩ rfl ?_
  refine wx_dup dL_law_3 rfl ?_
  refine wx_I0 dL_law_4 zCm_X8_init zII_X8_init zLk_L_9 zNp_X8_init rfl rfl (Nat.le_of_ble_eq_true rfl) (Or.inr ⟨by decide, by decide, rfl, by decide, by decide, by decide⟩) (Or.inl (Nat.le_of_ble_eq_true rfl)) ?_
  refine s_X8_init ⟨fun k a b => hr k (by omega) (by omega), fun k a b => hm k (by omega) (by omega)⟩ (fun rf2 mm2 c8 m8 x0 x1 x2 x3 x4 x5 x6 x7 x8 => ?_)
  refine wx_r0 ?_
  refine wx_astore_n (i := 1) dL_law_7 rfl (Nat.le_of_ble_eq_true rfl) rfl ?_
  refine wx_newT (n0 := 128) (n1 := 129) dL_law_8 zNc_L_10 zKo_128 (by (try dsimp only); rw [c8.1 _ (by omega)]; exact hr _ (by omega) (by omega)) (by (try dsimp only); rw [m8 _ (by omega)]; exact hm _ (by omega) (by omega)) ⟨by decide, by decide, by decide, by decide⟩ rfl ?_
  refine wx_dup dL_law_11 rfl ?_
  refine wx_I0 dL_law_12 zCm_X9_init zII_X9_init zLk_L_12 zNp_X9_init rfl rfl (Nat.le_of_ble_eq_true rfl) (Or.inr ⟨by decide, by decide, rfl, by decide, by decide, by decide⟩) (Or.inl (Nat.le_of_ble_eq_true rfl)) ?_
  refine s_X9_init ⟨fun k a b => by rw [c8.1 k (by omega)]; exact hr k (by omega) (by omega), fun k a b => by rw [m8 k (by omega)]; exact hm k (by omega) (by omega)⟩ (fun rf3 mm3 c9 m9 y0 y3 y4 y5 y7 y8 y13 y14 y21 y24 ya yz => ?_)
  refine wx_r0 ?_
  refine wx_astore_n (i := 2) dL_law_15 rfl (Nat.le_of_ble_eq_true rfl) rfl ?_
  refine wx_iconst (v := 0) dL_law_16 (by decide) ?_
  refine wx_istore_n (i := 3) dL_law_17 rfl (Nat.le_of_ble_eq_true rfl) rfl ?_
  have hrf : rf3 = zRF := funext fun k => by
    by_cases g1 : k < 128
    · rw [c9.1 k (by omega)]; exact c8.2 k (by omega) g1
    · by_cases g2 : k < 154
      · exact c9.2 k (by omega) g2
      · rw [c9.1 k (by omega), c8.1 k (by omega), hr2 k (by omega), zRF_hi (by omega)]
  subst hrf
  exact lp_law hln hK (ln / 4) 0 mm3 (by omega) ⟨8, zInit (sc := sc) (ln := ln) x0 x1 x2 x3 x4 x5 x6 x7 x8 m9 y0 y3 y4 y5 y7 y8 y13 y14 y21 y24 ya yz (fun j => by rw [m8 154 (by omega)]; exact h1 j) (by rw [m8 155 (by omega)]; exact h2)⟩
