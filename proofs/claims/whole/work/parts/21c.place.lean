/-! the rings of the class: place and keep -/
theorem zSpt_pad {bd : Nat → Nat → Int} {n ring : Nat} {pre : List Nat} (hn : 0 < n) (hl : pre.length = ring) (h6 : ring ≤ 6) : zSpt bd n (zPad pre) = zSpr (zRw bd pre ring) n := by
  unfold zSpt
  refine zSpr_cong hn (fun z _ => ?_)
  rw [zRw_cong (fun r _ => zPad_getD pre r) z]
  have h := zRw_zero (bd := bd) (t := pre) (k := ring) (fun r hr => zGetD_len (by omega)) z (6 - ring)
  rwa [show ring + (6 - ring) = 6 by omega] at h
/-- nothing but rows behind b, shares, the best and its spread have changed -/
def zFp (b ring : Nat) (mm m2 : zM) : Prop := (∀ c j, ¬ (108 + b < c ∧ c ≤ 113) → ¬ (c = 98 ∧ j = 5) → m2 c j = mm c j) ∧ ∀ r, r < ring → m2 112 r = mm 112 r
theorem zFp_refl (b ring : Nat) (mm : zM) : zFp b ring mm mm := ⟨fun _ _ _ _ => rfl, fun _ _ => rfl⟩
theorem zFp_trans {b ring : Nat} {x y z : zM} (h : zFp b ring x y) (g : zFp b ring y z) : zFp b ring x z := ⟨fun c j u v => (g.1 c j u v).trans (h.1 c j u v), fun r hr => (g.2 r hr).trans (h.2 r hr)⟩
theorem zRc_fp {bd : Nat → Nat → Int} {n b ring : Nat} {mm m2 : zM} (h : zRc bd n mm) (f : zFp b ring mm m2) (hb : b ≤ 5) : zRc bd n m2 := ⟨fun r z u v => by rw [f.1 _ z (by omega) (by omega)]; exact h.1 r z u v, by rw [f.1 98 4 (by omega) (by omega)]; exact h.2⟩
def zFol (bd : Nat → Nat → Int) (n : Nat) (st : Int × List Nat) (pre : List Nat) (l : List (List Nat)) : Int × List Nat := (l.map (fun t => zPad (pre ++ t))).foldl (zStp (zSpt bd n)) st
theorem zFol_nil (bd : Nat → Nat → Int) (n : Nat) (st : Int × List Nat) (pre : List Nat) : zFol bd n st pre [] = st := rfl
theorem zFol_app (bd : Nat → Nat → Int) (n : Nat) (st : Int × List Nat) (pre : List Nat) (a b : List (List Nat)) : zFol bd n st pre (a ++ b) = zFol bd n (zFol bd n st pre a) pre b := by
  unfold zFol
  rw [List.map_append, List.foldl_append]
theorem zFol_cons (bd : Nat → Nat → Int) (n : Nat) (st : Int × List Nat) (pre : List Nat) (s : Nat) (l : List (List Nat)) : zFol bd n st pre (l.map (fun t => s :: t)) = zFol bd n st (pre ++ [s]) l := by
  unfold zFol
  rw [List.map_map]
  congr 1
  refine List.map_congr_left (fun t _ => ?_)
  show zPad (pre ++ (s :: t)) = zPad (pre ++ [s] ++ t)
  rw [List.append_assoc]
  rfl
/-- how deep place goes -/
def zDd (d : Nat) : Nat → Nat
  | 0 => d + 4
  | k + 1 => zDd d k + 2
theorem lp_keep {d : Nat} {K : List Value → zS → Prop} {mm : zM} {bd : Nat → Nat → Int} {n ring b : Nat} {st : Int × List Nat} {pre : List Nat} (hO : zRo bd n) (hC : zRc bd n mm) (hl : pre.length = ring) (hb : b ≤ 3) (hsh : ∀ r, r < ring → mm 112 r = nI (pre.getD r 0)) (hrow : ∀ z, z < n → mm (107 + 1 + b) z = zi (zRw bd pre ring z)) (hst : zRs st mm) (h6 : ring ≤ 6) {x : Int32} (hlt : zSpt bd n (zPad pre) < st.1) (hs : -100000 ≤ zSpt bd n (zPad pre) ∧ zSpt bd n (zPad pre) ≤ 100000) (hK : ∀ m2 : zM, (∀ c j, c ≠ 113 → ¬ (c = 98 ∧ j = 5) → m2 c j = mm c j) → zRs (zStp (zSpt bd n) st (zPad pre)) m2 → K [] (zG m2))  : ∀ (c i : Nat) (m1 : zM), i + c = 6 → (∀ c j, c ≠ 113 → ¬ (c = 98 ∧ j = 5) → m1 c j = mm c j) → (m1 98 5 = zi (zSpt bd n (zPad pre))) → (∀ r, r < i → m1 113 r = nI ((zPad pre).getD r 0)) → wx (d + 2) mX5_keepIfBetter 27 [some (.ref 98), some (.int (nI ring)), some (.int (nI b)), some (.int x), some (.int (nI i))] [] (zG m1) K := by
  intro c
  induction c with
  | zero =>
    intro i m1 hi hf h5 hbst
    obtain rfl : i = 6 := by omega
    refine wx_iload dX5_keepIfBetter_27 rfl ?_
    refine wx_bipush (v := 6) dX5_keepIfBetter_29 (by decide) ?_
    refine wx_icmp_ge (tgt := 64) dX5_keepIfBetter_31 (by decide) (fun h31 => ?_) (fun h31 => ?_)
    · skip
      refine wx_vret dX5_keepIfBetter_64 rfl (Or.inl rfl) ?_
      refine hK m1 hf ?_
      unfold zStp
      rw [if_pos hlt]
      exact ⟨⟨h5, hs⟩, hbst⟩
    · exact absurd (show nI 6 ≤ nI 6 from nI_le (by omega) (by omega)) h31 --end
  | succ c ih =>
    intro i m1 hi hf h5 hbst
    refine wx_iload dX5_keepIfBetter_27 rfl ?_
    refine wx_bipush (v := 6) dX5_keepIfBetter_29 (by decide) ?_
    refine wx_icmp_ge (tgt := 64) dX5_keepIfBetter_31 (by decide) (fun h31 => ?_) (fun h31 => ?_)
    · exact absurd (show nI 6 ≤ nI i from h31) (nI_ge (by omega) (by omega)) --end
    · skip
      refine wx_aload_n (i := 0) dX5_keepIfBetter_34 rfl rfl ?_
      refine wx_getRG (k := 98) (t := 113) dX5_keepIfBetter_35 zF_X5_23 zKo_98 rfl (Nat.le_of_ble_eq_true rfl) zRf_98_3 ?_
      refine wx_iload dX5_keepIfBetter_38 rfl ?_
      refine wx_iload dX5_keepIfBetter_40 rfl ?_
      refine wx_iload_n (i := 1) dX5_keepIfBetter_42 rfl rfl ?_
      refine wx_icmp_ge (tgt := 56) dX5_keepIfBetter_43 (by decide) (fun h43 => ?_) (fun h43 => ?_)
      · have h43 : ring ≤ i := Nat.not_lt.mp (fun u => absurd (show nI ring ≤ nI i from h43) (nI_ge u (by omega)))
        refine wx_iconst (v := 0) dX5_keepIfBetter_56 (by decide) ?_
        refine wx_iastG (k := 113) dX5_keepIfBetter_57 zK_113 (Nat.le_of_ble_eq_true rfl) rfl ?_ ?_
        · exact ⟨by omega, by decide⟩
        refine wx_inc (c := 1) dX5_keepIfBetter_58 rfl (by decide) (Nat.le_of_ble_eq_true rfl) rfl ?_
        refine wx_goto (tgt := 27) dX5_keepIfBetter_61 (by decide) ?_
        rw [nI_1]
        refine ih (i + 1) _ (by omega) (fun c j u v => (congrFun (zU_ne u) j).trans (hf c j u v)) (by rw [zU_ne (by decide)]; exact h5) (zU_lt (f := fun r => nI ((zPad pre).getD r 0)) hbst ?_)
        show _ = nI ((zPad pre).getD i 0)
        rw [zPad_getD]
        first | (rw [hf 112 i (by decide) (by omega)]; exact hsh i h43) | (rw [zGetD_len (by omega)]; rfl)
      · have h43 : i < ring := Nat.not_le.mp (fun u => h43 (nI_le u (by omega)))
        refine wx_aload_n (i := 0) dX5_keepIfBetter_46 rfl rfl ?_
        refine wx_getRG (k := 98) (t := 112) dX5_keepIfBetter_47 zF_X5_19 zKo_98 rfl (Nat.le_of_ble_eq_true rfl) zRf_98_2 ?_
        refine wx_iload dX5_keepIfBetter_50 rfl ?_
        refine wx_ialdG (k := 112) dX5_keepIfBetter_52 zK_112 (Nat.le_of_ble_eq_true rfl) rfl ?_ ?_
        · exact ⟨by omega, by decide⟩
        refine wx_goto (tgt := 57) dX5_keepIfBetter_53 (by decide) ?_
        refine wx_iastG (k := 113) dX5_keepIfBetter_57 zK_113 (Nat.le_of_ble_eq_true rfl) rfl ?_ ?_
        · exact ⟨by omega, by decide⟩
        refine wx_inc (c := 1) dX5_keepIfBetter_58 rfl (by decide) (Nat.le_of_ble_eq_true rfl) rfl ?_
        refine wx_goto (tgt := 27) dX5_keepIfBetter_61 (by decide) ?_
        rw [nI_1]
        refine ih (i + 1) _ (by omega) (fun c j u v => (congrFun (zU_ne u) j).trans (hf c j u v)) (by rw [zU_ne (by decide)]; exact h5) (zU_lt (f := fun r => nI ((zPad pre).getD r 0)) hbst ?_)
        show _ = nI ((zPad pre).getD i 0)
        rw [zPad_getD]
        first | (rw [hf 112 i (by decide) (by omega)]; exact hsh i h43) | (rw [zGetD_len (by omega)]; rfl)
theorem zSpt_b {bd : Nat → Nat → Int} {n : Nat} (hO : zRo bd n) {t : List Nat} (h12 : zSu t 6 = 12) : -24000 ≤ zSpt bd n t ∧ zSpt bd n t ≤ 24000 := by
  have hw : ∀ z, -12000 ≤ zRw bd t 6 z ∧ zRw bd t 6 z ≤ 12000 := fun z => by
    have h := zRw_bd hO.1 t z 6
    rw [h12] at h
    omega
  have h0 := hw 0
  have a := (zMx_spec (zRw bd t 6) (zRw bd t 6 0) n).2
  have b := (zMn_spec (zRw bd t 6) (zRw bd t 6 0) n).2
  have a2 : -12000 ≤ zMx (zRw bd t 6) (zRw bd t 6 0) n ∧ zMx (zRw bd t 6) (zRw bd t 6 0) n ≤ 12000 := by
    rcases a with a | ⟨j, _, a⟩
    · rw [a]; exact h0
    · rw [a]; exact hw j
  have b2 : -12000 ≤ zMn (zRw bd t 6) (zRw bd t 6 0) n ∧ zMn (zRw bd t 6) (zRw bd t 6 0) n ≤ 12000 := by
    rcases b with b | ⟨j, _, b⟩
    · rw [b]; exact h0
    · rw [b]; exact hw j
  unfold zSpt zSpr
  omega
theorem zSu_zero {t : List Nat} {k : Nat} (h : ∀ r, k ≤ r → t.getD r 0 = 0) : ∀ j : Nat, zSu t (k + j) = zSu t k
  | 0 => rfl
  | j + 1 => by
    show zSu t (k + j) + t.getD (k + j) 0 = _
    rw [zSu_zero h j, h (k + j) (by omega)]
    omega
theorem zSu_all {t : List Nat} {ring : Nat} (hl : t.length = ring) (h6 : ring ≤ 6) (h12 : zSu t ring = 12) : zSu t 6 = 12 := by
  have h := zSu_zero (t := t) (k := ring) (fun r hr => zGetD_len (by omega)) (6 - ring)
  rw [show ring + (6 - ring) = 6 by omega] at h
  omega
theorem s_X5_keepIfBetter {d : Nat} {K : List Value → zS → Prop} {mm : zM} {bd : Nat → Nat → Int} {n ring b : Nat} {st : Int × List Nat} {pre : List Nat} (hO : zRo bd n) (hC : zRc bd n mm) (hl : pre.length = ring) (hb : b ≤ 3) (hsh : ∀ r, r < ring → mm 112 r = nI (pre.getD r 0)) (hrow : ∀ z, z < n → mm (107 + 1 + b) z = zi (zRw bd pre ring z)) (hst : zRs st mm) (h6 : ring ≤ 6) (h12 : zSu pre ring = 12) (hK : ∀ m2 : zM, (∀ c j, c ≠ 113 → ¬ (c = 98 ∧ j = 5) → m2 c j = mm c j) → zRs (zStp (zSpt bd n) st (zPad pre)) m2 → K [] (zG m2))  : wm (d + 2) mX5_keepIfBetter [.ref 98, .int (nI ring), .int (nI b)] (zG mm) K := by
  have hsp := zSpt_pad (bd := bd) (pre := pre) (show 0 < n by have := hO.2; omega) hl h6
  have hwb : ∀ z, -100000 ≤ zRw bd pre ring z ∧ zRw bd pre ring z ≤ 100000 := fun z => by
    have h := zRw_bd hO.1 pre z ring
    rw [h12] at h
    omega
  have hs : -24000 ≤ zSpt bd n (zPad pre) ∧ zSpt bd n (zPad pre) ≤ 24000 := zSpt_b hO (by rw [zSu_cong (fun r _ => zPad_getD pre r)]; exact zSu_all hl h6 h12)
  have hs1 := hst.1.2
  refine wm_of2 (L0 := [some (.ref 98), some (.int (nI ring)), some (.int (nI b)), none, none]) zCm_X5_keepIfBetter (Or.inl rfl) (Nat.le_of_ble_eq_true rfl) rfl ?_
  refine wx_aload_n (i := 0) dX5_keepIfBetter_0 rfl rfl ?_
  refine wx_aload_n (i := 0) dX5_keepIfBetter_1 rfl rfl ?_
  refine wx_getRG (k := 98) (t := 107) dX5_keepIfBetter_2 zF_X5_16 zKo_98 rfl (Nat.le_of_ble_eq_true rfl) zRf_98_1 ?_
  refine wx_iload_n (i := 2) dX5_keepIfBetter_5 rfl rfl ?_
  refine wx_aaldG (k := 107) (j := b) dX5_keepIfBetter_6 zK_107 (Nat.le_of_ble_eq_true rfl) rfl ?_ ?_
  · exact ⟨by omega, by decide⟩
  refine wx_V1 dX5_keepIfBetter_7 zPV_X5_spreadOf zLk_X5_58 rfl (Nat.le_of_ble_eq_true rfl) (Nat.le_of_ble_eq_true rfl) (Or.inr rfl) ?_
  refine s_X5_spreadOf (k := 107 + 1 + b) (w := zRw bd pre ring) (by omega) hO.2 hC.2 hrow hwb ?_
  rw [← hsp]
  refine wx_r1 ?_
  refine wx_istore_n (i := 3) dX5_keepIfBetter_10 rfl (Nat.le_of_ble_eq_true rfl) rfl ?_
  refine wx_iload_n (i := 3) dX5_keepIfBetter_11 rfl rfl ?_
  refine wx_aload_n (i := 0) dX5_keepIfBetter_12 rfl rfl ?_
  refine wx_getIG (k := 98) dX5_keepIfBetter_13 zF_X5_43 zKo_98 rfl (Nat.le_of_ble_eq_true rfl) ?_
  refine wx_icmp_ge (tgt := 64) dX5_keepIfBetter_16 (by decide) (fun h16 => ?_) (fun h16 => ?_)
  · rw [hst.1.1, zi_le (by omega) (by omega)] at h16
    refine wx_vret dX5_keepIfBetter_64 rfl (Or.inl rfl) ?_
    refine hK mm (fun _ _ _ _ => rfl) ?_
    unfold zStp
    rw [if_neg (by omega)]
    exact hst
  · rw [hst.1.1, zi_le (by omega) (by omega)] at h16
    refine wx_aload_n (i := 0) dX5_keepIfBetter_19 rfl rfl ?_
    refine wx_iload_n (i := 3) dX5_keepIfBetter_20 rfl rfl ?_
    refine wx_putIG (k := 98) dX5_keepIfBetter_21 zF_X5_43 zKo_98 rfl (Nat.le_of_ble_eq_true rfl) rfl rfl ?_
    refine wx_iconst (v := 0) dX5_keepIfBetter_24 (by decide) ?_
    refine wx_istore dX5_keepIfBetter_25 (Nat.le_of_ble_eq_true rfl) rfl ?_
    exact lp_keep hO hC hl hb hsh hrow hst h6 (by omega) (by omega) hK 6 0 _ (by omega) (fun c j u v => zU_off v) (zU_same _ _ _ _) (fun r hr => absurd hr (Nat.not_lt_zero r))
