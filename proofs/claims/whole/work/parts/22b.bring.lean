/-! the grits of the class: one row brought to another -/
/-- row r1 is row r0 with the first wets of a grit brought in -/
def zBf (ok : Int → Prop) (t T had : Nat) (r0 r1 : Nat → Nat) (i : Nat) : Prop := (∀ x, r1 x ≤ r0 x) ∧ (∀ w, 1 ≤ w → w ≤ i → ok ((w * T : Nat) : Int) → t + w * T < 2101 → r1 (t + w * T) ≤ had + w) ∧ (∀ x, r1 x = r0 x ∨ ∃ w, 1 ≤ w ∧ w ≤ 30 ∧ ok ((w * T : Nat) : Int) ∧ x = t + w * T ∧ r1 x = had + w)
theorem zBf_0 (ok : Int → Prop) (t T had : Nat) (r0 : Nat → Nat) : zBf ok t T had r0 r0 0 := ⟨fun _ => Nat.le_refl _, fun w h1 h2 => absurd h1 (by omega), fun _ => Or.inl rfl⟩
theorem zBf_no {ok : Int → Prop} {t T had : Nat} {r0 r1 : Nat → Nat} {i : Nat} (h : zBf ok t T had r0 r1 i) (hn : ¬ ok (((i + 1) * T : Nat) : Int)) : zBf ok t T had r0 r1 (i + 1) := ⟨h.1, fun w h1 h2 h3 h4 => by
  by_cases e : w = i + 1
  · subst e; exact absurd h3 hn
  · exact h.2.1 w h1 (by omega) h3 h4, h.2.2⟩
theorem zBf_yes {ok : Int → Prop} {t T had : Nat} {r0 r1 : Nat → Nat} {i : Nat} (h : zBf ok t T had r0 r1 i) (hi : i < 30) (hy : ok (((i + 1) * T : Nat) : Int)) : zBf ok t T had r0 (fun x => if x = t + (i + 1) * T then (if r1 x ≤ had + (i + 1) then r1 x else had + (i + 1)) else r1 x) (i + 1) := by
  refine ⟨fun x => ?_, fun w h1 h2 h3 h4 => ?_, fun x => ?_⟩
  · have := h.1 x
    show (if x = t + (i + 1) * T then (if r1 x ≤ had + (i + 1) then r1 x else had + (i + 1)) else r1 x) ≤ r0 x
    by_cases e : x = t + (i + 1) * T
    · rw [if_pos e]
      by_cases q : r1 x ≤ had + (i + 1)
      · rw [if_pos q]; exact this
      · rw [if_neg q]; omega
    · rw [if_neg e]; exact this
  · show (if t + w * T = t + (i + 1) * T then (if r1 (t + w * T) ≤ had + (i + 1) then r1 (t + w * T) else had + (i + 1)) else r1 (t + w * T)) ≤ had + w
    by_cases e2 : w = i + 1
    · subst e2
      rw [if_pos rfl]
      by_cases q : r1 (t + (i + 1) * T) ≤ had + (i + 1)
      · rw [if_pos q]; exact q
      · rw [if_neg q]; exact Nat.le_refl _
    · have h5 := h.2.1 w h1 (by omega) h3 h4
      by_cases e : t + w * T = t + (i + 1) * T
      · rw [if_pos e]
        by_cases q : r1 (t + w * T) ≤ had + (i + 1)
        · rw [if_pos q]; exact h5
        · rw [if_neg q]; omega
      · rw [if_neg e]; exact h5
  · show (if x = t + (i + 1) * T then (if r1 x ≤ had + (i + 1) then r1 x else had + (i + 1)) else r1 x) = r0 x ∨ ∃ w, 1 ≤ w ∧ w ≤ 30 ∧ ok ((w * T : Nat) : Int) ∧ x = t + w * T ∧ (if x = t + (i + 1) * T then (if r1 x ≤ had + (i + 1) then r1 x else had + (i + 1)) else r1 x) = had + w
    by_cases e : x = t + (i + 1) * T
    · rw [if_pos e]
      by_cases q : r1 x ≤ had + (i + 1)
      · rw [if_pos q]; exact h.2.2 x
      · rw [if_neg q]; exact Or.inr ⟨i + 1, by omega, by omega, hy, e, rfl⟩
    · rw [if_neg e]; exact h.2.2 x
theorem zBf_all {ok : Int → Prop} {t T had : Nat} {r0 r1 : Nat → Nat} {i : Nat} (h : zBf ok t T had r0 r1 i) (hx : 2101 ≤ t + (i + 1) * T) : zBf ok t T had r0 r1 30 := ⟨h.1, fun w h1 h2 h3 h4 => by
  by_cases e : w ≤ i
  · exact h.2.1 w h1 e h3 h4
  · have : (i + 1) * T ≤ w * T := Nat.mul_le_mul_right T (by omega)
    omega, h.2.2⟩
theorem nI_mul (a b : Nat) : nI a * nI b = nI (a * b) := by
  rw [zi_nI, zi_nI, zi_nI, zi_mul]
  exact congrArg zi (by rw [Int.natCast_mul])
theorem lp_bf {d : Nat} {K : List Value → zS → Prop} {mm : zM} {pt : Nat → Int} {tk : Nat → Nat} {u nx t had : Nat} {r0 : Nat → Nat} (hu : u ≤ nx ∧ nx < 6) (ht : t < 2101) (hp : ∀ k, k < u → mm 119 k = zi (pt k) ∧ 0 ≤ pt k ∧ pt k ≤ 200) (htk : mm 118 nx = nI (tk nx) ∧ 1 ≤ tk nx ∧ tk nx ≤ 100) (hr : ∀ x, x < 2101 → mm (120 + 1 + u) x = nI (r0 x)) (hr0 : ∀ x, r0 x ≤ 1000) (hh : mm (120 + 1 + (nx + 1)) t = nI had) (hhad : had < 1000) (hK : ∀ (m2 : zM) (r1 : Nat → Nat), (∀ c, c ≠ 120 + 1 + u → m2 c = mm c) → (∀ x, x < 2101 → m2 (120 + 1 + u) x = nI (r1 x)) → zBf (zCe pt u) t (tk nx) had r0 r1 30 → K [] (zG m2))  : ∀ (c i : Nat) (m1 : zM) (r1 : Nat → Nat) (y : Option Value), i + c = 30 → (∀ c, c ≠ 120 + 1 + u → m1 c = mm c) → (∀ x, x < 2101 → m1 (120 + 1 + u) x = nI (r1 x)) → (zBf (zCe pt u) t (tk nx) had r0 r1 i) → wx (d + 1) mX2_bringFrom 25 [some (.ref 117), some (.int (zi ((u : Int) - 1))), some (.int (nI nx)), some (.int (nI t)), some (.ref (120 + 1 + u)), some (.int (nI had)), some (.int (nI (i + 1))), y] [] (zG m1) K := by
  intro c
  induction c with
  | zero =>
    intro i m1 r1 y hi hf hx hb
    obtain rfl : i = 30 := by omega
    refine wx_iload dX2_bringFrom_25 rfl ?_
    refine wx_bipush (v := 30) dX2_bringFrom_27 (by decide) ?_
    refine wx_icmp_gt (tgt := 103) dX2_bringFrom_29 (by decide) (fun h29 => ?_) (fun h29 => ?_)
    · skip
      refine wx_vret dX2_bringFrom_103 rfl (Or.inl rfl) ?_
      exact hK m1 r1 hf hx hb
    · exact absurd (show nI 30 < nI 31 from nI_lt (by omega) (by omega)) h29 --end
  | succ c ih =>
    intro i m1 r1 y hi hf hx hb
    have hmu : (i + 1) * tk nx ≤ 30 * 100 := Nat.mul_le_mul (by omega) htk.2.2
    refine wx_iload dX2_bringFrom_25 rfl ?_
    refine wx_bipush (v := 30) dX2_bringFrom_27 (by decide) ?_
    refine wx_icmp_gt (tgt := 103) dX2_bringFrom_29 (by decide) (fun h29 => ?_) (fun h29 => ?_)
    · exact absurd (show nI 30 < nI (i + 1) from h29) (nI_nlt (by omega) (by omega)) --end
    · skip
      refine wx_iload_n (i := 3) dX2_bringFrom_32 rfl rfl ?_
      refine wx_iload dX2_bringFrom_33 rfl ?_
      refine wx_aload_n (i := 0) dX2_bringFrom_35 rfl rfl ?_
      refine wx_getRG (k := 117) (t := 118) dX2_bringFrom_36 zF_X2_9 zKo_117 rfl (Nat.le_of_ble_eq_true rfl) zRf_117_0 ?_
      refine wx_iload_n (i := 2) dX2_bringFrom_39 rfl rfl ?_
      refine wx_ialdG (k := 118) dX2_bringFrom_40 zK_118 (Nat.le_of_ble_eq_true rfl) rfl ?_ ?_
      · exact ⟨by omega, by decide⟩
      refine wx_imul dX2_bringFrom_41 ?_
      refine wx_iadd dX2_bringFrom_42 ?_
      refine wx_sipush (v := 2101) dX2_bringFrom_43 (by decide) ?_
      refine wx_icmp_ge (tgt := 103) dX2_bringFrom_46 (by decide) (fun h46 => ?_) (fun h46 => ?_)
      · rw [hf 118 (by omega), htk.1, nI_mul, nI_add] at h46
        have h46 : 2101 ≤ t + (i + 1) * tk nx := Nat.not_lt.mp (fun w => absurd (show nI 2101 ≤ nI (t + (i + 1) * tk nx) from h46) (nI_ge w (by omega)))
        refine wx_vret dX2_bringFrom_103 rfl (Or.inl rfl) ?_
        exact hK m1 r1 hf hx (zBf_all hb h46)
      · rw [hf 118 (by omega), htk.1, nI_mul, nI_add] at h46
        have h46 := Nat.not_le.mp (fun w => h46 (show nI 2101 ≤ nI (t + (i + 1) * tk nx) from nI_le w (by omega)))
        refine wx_aload_n (i := 0) dX2_bringFrom_49 rfl rfl ?_
        refine wx_iload_n (i := 1) dX2_bringFrom_50 rfl rfl ?_
        refine wx_iload dX2_bringFrom_51 rfl ?_
        refine wx_aload_n (i := 0) dX2_bringFrom_53 rfl rfl ?_
        refine wx_getRG (k := 117) (t := 118) dX2_bringFrom_54 zF_X2_9 zKo_117 rfl (Nat.le_of_ble_eq_true rfl) zRf_117_0 ?_
        refine wx_iload_n (i := 2) dX2_bringFrom_57 rfl rfl ?_
        refine wx_ialdG (k := 118) dX2_bringFrom_58 zK_118 (Nat.le_of_ble_eq_true rfl) rfl ?_ ?_
        · exact ⟨by omega, by decide⟩
        refine wx_imul dX2_bringFrom_59 ?_
        refine wx_V2 dX2_bringFrom_60 zPV_X2_clears zLk_X2_49 rfl (Nat.le_of_ble_eq_true rfl) (Nat.le_of_ble_eq_true rfl) (Or.inr rfl) ?_
        rw [hf 118 (by omega), htk.1, nI_mul, zi_nI ((i + 1) * tk nx)]
        refine s_X2_clears (pt := pt) (by omega) (fun k hk => by rw [hf 119 (by omega)]; exact hp k hk) (by omega) (fun b hcl => ?_)
        refine wx_r1 ?_
        refine wx_if_eq (tgt := 97) dX2_bringFrom_63 (by decide) (fun h63 => ?_) (fun h63 => ?_)
        · have hno : ¬ zCe pt u (((i + 1) * tk nx : Nat) : Int) := by
            rcases hcl with ⟨e, _⟩ | ⟨_, e⟩
            · rw [e] at h63; exact absurd h63 (by decide)
            · exact e
          refine wx_inc (c := 1) dX2_bringFrom_97 rfl (by decide) (Nat.le_of_ble_eq_true rfl) rfl ?_
          refine wx_goto (tgt := 25) dX2_bringFrom_100 (by decide) ?_
          rw [nI_1]
          exact ih (i + 1) m1 r1 _ (by omega) hf hx (zBf_no hb hno)
        · have hye : zCe pt u (((i + 1) * tk nx : Nat) : Int) := by
            rcases hcl with ⟨_, e⟩ | ⟨e, _⟩
            · exact e
            · exact absurd e h63
          refine wx_iload_n (i := 3) dX2_bringFrom_66 rfl rfl ?_
          refine wx_iload dX2_bringFrom_67 rfl ?_
          refine wx_aload_n (i := 0) dX2_bringFrom_69 rfl rfl ?_
          refine wx_getRG (k := 117) (t := 118) dX2_bringFrom_70 zF_X2_9 zKo_117 rfl (Nat.le_of_ble_eq_true rfl) zRf_117_0 ?_
          refine wx_iload_n (i := 2) dX2_bringFrom_73 rfl rfl ?_
          refine wx_ialdG (k := 118) dX2_bringFrom_74 zK_118 (Nat.le_of_ble_eq_true rfl) rfl ?_ ?_
          · exact ⟨by omega, by decide⟩
          refine wx_imul dX2_bringFrom_75 ?_
          refine wx_iadd dX2_bringFrom_76 ?_
          refine wx_istore dX2_bringFrom_77 (Nat.le_of_ble_eq_true rfl) rfl ?_
          refine wx_aload dX2_bringFrom_79 rfl ?_
          refine wx_iload dX2_bringFrom_81 rfl ?_
          refine wx_aload dX2_bringFrom_83 rfl ?_
          refine wx_iload dX2_bringFrom_85 rfl ?_
          refine wx_ialdG (j := t + (i + 1) * tk nx) dX2_bringFrom_87 (zKin_120 _ (by omega)) (zKlt_120 _ (by omega)) ?_ ?_ ?_
          · (rw [hf 118 (by omega), htk.1, nI_mul, nI_add])
          · exact ⟨by omega, by decide⟩
          refine wx_iload dX2_bringFrom_88 rfl ?_
          refine wx_iload dX2_bringFrom_90 rfl ?_
          refine wx_iadd dX2_bringFrom_92 ?_
          refine wx_S2 dX2_bringFrom_93 zPS_J9_min_7cf53 zLk_X2_59 (Nat.le_of_ble_eq_true rfl) (Or.inr rfl) ?_
          refine s_J9_min_7cf53 _ _ ?_
          rw [hx _ h46, nI_add]
          refine wx_r1 ?_
          refine wx_iastG (j := t + (i + 1) * tk nx) dX2_bringFrom_96 (zKin_120 _ (by omega)) (zKlt_120 _ (by omega)) ?_ ?_ ?_
          · (rw [hf 118 (by omega), htk.1, nI_mul, nI_add])
          · exact ⟨by omega, by decide⟩
          refine wx_inc (c := 1) dX2_bringFrom_97 rfl (by decide) (Nat.le_of_ble_eq_true rfl) rfl ?_
          refine wx_goto (tgt := 25) dX2_bringFrom_100 (by decide) ?_
          rw [nI_1]
          refine ih (i + 1) _ _ _ (by omega) (fun c w => (zU_ne w).trans (hf c w)) (fun x hx2 => ?_) (zBf_yes hb (by omega) hye)
          show _ = nI (if x = t + (i + 1) * tk nx then (if r1 x ≤ had + (i + 1) then r1 x else had + (i + 1)) else r1 x)
          by_cases e : x = t + (i + 1) * tk nx
          · subst e
            have h1 := hb.1 (t + (i + 1) * tk nx)
            have h2 := hr0 (t + (i + 1) * tk nx)
            rw [zU_same, if_pos rfl]
            by_cases q : r1 (t + (i + 1) * tk nx) ≤ had + (i + 1)
            · rw [if_pos q, if_pos (nI_le q (by omega))]
            · rw [if_neg q, if_neg (nI_ge (by omega) (by omega))]
          · rw [zU_off (fun w => e w.2), if_neg e]
            exact hx x hx2
theorem s_X2_bringFrom {d : Nat} {K : List Value → zS → Prop} {mm : zM} {pt : Nat → Int} {tk : Nat → Nat} {u nx t had : Nat} {r0 : Nat → Nat} (hu : u ≤ nx ∧ nx < 6) (ht : t < 2101) (hp : ∀ k, k < u → mm 119 k = zi (pt k) ∧ 0 ≤ pt k ∧ pt k ≤ 200) (htk : mm 118 nx = nI (tk nx) ∧ 1 ≤ tk nx ∧ tk nx ≤ 100) (hr : ∀ x, x < 2101 → mm (120 + 1 + u) x = nI (r0 x)) (hr0 : ∀ x, r0 x ≤ 1000) (hh : mm (120 + 1 + (nx + 1)) t = nI had) (hhad : had < 1000) (hK : ∀ (m2 : zM) (r1 : Nat → Nat), (∀ c, c ≠ 120 + 1 + u → m2 c = mm c) → (∀ x, x < 2101 → m2 (120 + 1 + u) x = nI (r1 x)) → zBf (zCe pt u) t (tk nx) had r0 r1 30 → K [] (zG m2))  : wm (d + 1) mX2_bringFrom [.ref 117, .int (zi ((u : Int) - 1)), .int (nI nx), .int (nI t)] (zG mm) K := by
  refine wm_of2 (L0 := [some (.ref 117), some (.int (zi ((u : Int) - 1))), some (.int (nI nx)), some (.int (nI t)), none, none, none, none]) zCm_X2_bringFrom (Or.inl rfl) (Nat.le_of_ble_eq_true rfl) rfl ?_
  refine wx_aload_n (i := 0) dX2_bringFrom_0 rfl rfl ?_
  refine wx_getRG (k := 117) (t := 120) dX2_bringFrom_1 zF_X2_20 zKo_117 rfl (Nat.le_of_ble_eq_true rfl) zRf_117_2 ?_
  refine wx_iload_n (i := 1) dX2_bringFrom_4 rfl rfl ?_
  refine wx_iconst (v := 1) dX2_bringFrom_5 (by decide) ?_
  refine wx_iadd dX2_bringFrom_6 ?_
  refine wx_aaldG (k := 120) (j := u) dX2_bringFrom_7 zK_120 (Nat.le_of_ble_eq_true rfl) ?_ ?_ ?_
  · (rw [zl_1, zi_add, zi_nI]; exact congrArg zi (by omega))
  · exact ⟨by omega, by decide⟩
  refine wx_astore dX2_bringFrom_8 (Nat.le_of_ble_eq_true rfl) rfl ?_
  refine wx_aload_n (i := 0) dX2_bringFrom_10 rfl rfl ?_
  refine wx_getRG (k := 117) (t := 120) dX2_bringFrom_11 zF_X2_20 zKo_117 rfl (Nat.le_of_ble_eq_true rfl) zRf_117_2 ?_
  refine wx_iload_n (i := 2) dX2_bringFrom_14 rfl rfl ?_
  refine wx_iconst (v := 1) dX2_bringFrom_15 (by decide) ?_
  refine wx_iadd dX2_bringFrom_16 ?_
  refine wx_aaldG (k := 120) (j := nx + 1) dX2_bringFrom_17 zK_120 (Nat.le_of_ble_eq_true rfl) ?_ ?_ ?_
  · (rw [nI_1])
  · exact ⟨by omega, by decide⟩
  refine wx_iload_n (i := 3) dX2_bringFrom_18 rfl rfl ?_
  refine wx_ialdG dX2_bringFrom_19 (zKin_120 _ (by omega)) (zKlt_120 _ (by omega)) rfl ?_ ?_
  · exact ⟨by omega, by decide⟩
  refine wx_istore dX2_bringFrom_20 (Nat.le_of_ble_eq_true rfl) rfl ?_
  refine wx_iconst (v := 1) dX2_bringFrom_22 (by decide) ?_
  refine wx_istore dX2_bringFrom_23 (Nat.le_of_ble_eq_true rfl) rfl ?_
  rw [hh]
  exact lp_bf hu ht hp htk hr hr0 hh hhad hK 30 0 mm r0 _ (by omega) (fun _ _ => rfl) hr (zBf_0 _ _ _ _ _)
