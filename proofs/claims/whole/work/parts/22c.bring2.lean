/-! the grits of the class: bring -/
/-- row r1 is row r0 with a grit brought in from the first places of its row R -/
def zBb (ok : Int → Prop) (T : Nat) (R r0 r1 : Nat → Nat) (i : Nat) : Prop := (∀ x, r1 x ≤ r0 x) ∧ (∀ t w, t < i → R t < 1000 → 1 ≤ w → w ≤ 30 → ok ((w * T : Nat) : Int) → t + w * T < 2101 → r1 (t + w * T) ≤ R t + w) ∧ (∀ x, r1 x = r0 x ∨ ∃ t w, t < 2101 ∧ R t < 1000 ∧ 1 ≤ w ∧ w ≤ 30 ∧ ok ((w * T : Nat) : Int) ∧ x = t + w * T ∧ r1 x = R t + w)
theorem zBb_0 (ok : Int → Prop) (T : Nat) (R r0 : Nat → Nat) : zBb ok T R r0 r0 0 := ⟨fun _ => Nat.le_refl _, fun t w h1 => absurd h1 (Nat.not_lt_zero t), fun _ => Or.inl rfl⟩
theorem zBb_no {ok : Int → Prop} {T : Nat} {R r0 r1 : Nat → Nat} {i : Nat} (h : zBb ok T R r0 r1 i) (hn : ¬ R i < 1000) : zBb ok T R r0 r1 (i + 1) := ⟨h.1, fun t w h1 h2 => by
  by_cases e : t = i
  · subst e; exact absurd h2 hn
  · exact h.2.1 t w (by omega) h2, h.2.2⟩
theorem zBb_yes {ok : Int → Prop} {T : Nat} {R r0 r1 r2 : Nat → Nat} {i : Nat} (h : zBb ok T R r0 r1 i) (hi : i < 2101) (hR : R i < 1000) (g : zBf ok i T (R i) r1 r2 30) : zBb ok T R r0 r2 (i + 1) := by
  refine ⟨fun x => Nat.le_trans (g.1 x) (h.1 x), fun t w h1 h2 h3 h4 h5 h6 => ?_, fun x => ?_⟩
  · by_cases e : t = i
    · subst e; exact g.2.1 w h3 h4 h5 h6
    · exact Nat.le_trans (g.1 _) (h.2.1 t w (by omega) h2 h3 h4 h5 h6)
  · rcases g.2.2 x with e | ⟨w, w1, w2, w3, w4, w5⟩
    · rcases h.2.2 x with q | ⟨t, w, q⟩
      · exact Or.inl (e.trans q)
      · exact Or.inr ⟨t, w, q.1, q.2.1, q.2.2.1, q.2.2.2.1, q.2.2.2.2.1, q.2.2.2.2.2.1, e.trans q.2.2.2.2.2.2⟩
    · exact Or.inr ⟨i, w, hi, hR, w1, w2, w3, w4, w5⟩
theorem lp_bring {d : Nat} {K : List Value → zS → Prop} {mm : zM} {pt : Nat → Int} {tk : Nat → Nat} {u nx : Nat} {R r0 : Nat → Nat} (hu : u ≤ nx ∧ nx < 6) (hp : ∀ k, k < u → mm 119 k = zi (pt k) ∧ 0 ≤ pt k ∧ pt k ≤ 200) (htk : mm 118 nx = nI (tk nx) ∧ 1 ≤ tk nx ∧ tk nx ≤ 100) (hr : ∀ x, x < 2101 → mm (120 + 1 + u) x = nI (r0 x)) (hr0 : ∀ x, r0 x ≤ 1000) (hR : ∀ x, x < 2101 → mm (120 + 1 + (nx + 1)) x = nI (R x)) (hR0 : ∀ x, R x ≤ 1000) (hK : ∀ (m2 : zM) (r1 : Nat → Nat), (∀ c, c ≠ 120 + 1 + u → m2 c = mm c) → (∀ x, x < 2101 → m2 (120 + 1 + u) x = nI (r1 x)) → zBb (zCe pt u) (tk nx) R r0 r1 2101 → K [] (zG m2))  : ∀ (c i : Nat) (m1 : zM) (r1 : Nat → Nat), i + c = 2101 → (∀ c, c ≠ 120 + 1 + u → m1 c = mm c) → (∀ x, x < 2101 → m1 (120 + 1 + u) x = nI (r1 x)) → (zBb (zCe pt u) (tk nx) R r0 r1 i) → wx (d + 2) mX2_bring 12 [some (.ref 117), some (.int (zi ((u : Int) - 1))), some (.int (nI nx)), some (.ref (120 + 1 + (nx + 1))), some (.int (nI i))] [] (zG m1) K := by
  intro c
  induction c with
  | zero =>
    intro i m1 r1 hi hf hx hb
    obtain rfl : i = 2101 := by omega
    refine wx_iload dX2_bring_12 rfl ?_
    refine wx_sipush (v := 2101) dX2_bring_14 (by decide) ?_
    refine wx_icmp_ge (tgt := 44) dX2_bring_17 (by decide) (fun h17 => ?_) (fun h17 => ?_)
    · skip
      refine wx_vret dX2_bring_44 rfl (Or.inl rfl) ?_
      exact hK m1 r1 hf hx hb
    · exact absurd (show nI 2101 ≤ nI 2101 from nI_le (by omega) (by omega)) h17 --end
  | succ c ih =>
    intro i m1 r1 hi hf hx hb
    refine wx_iload dX2_bring_12 rfl ?_
    refine wx_sipush (v := 2101) dX2_bring_14 (by decide) ?_
    refine wx_icmp_ge (tgt := 44) dX2_bring_17 (by decide) (fun h17 => ?_) (fun h17 => ?_)
    · exact absurd (show nI 2101 ≤ nI i from h17) (nI_ge (by omega) (by omega)) --end
    · skip
      refine wx_aload_n (i := 3) dX2_bring_20 rfl rfl ?_
      refine wx_iload dX2_bring_21 rfl ?_
      refine wx_ialdG dX2_bring_23 (zKin_120 _ (by omega)) (zKlt_120 _ (by omega)) rfl ?_ ?_
      · exact ⟨by omega, by decide⟩
      refine wx_sipush (v := 1000) dX2_bring_24 (by decide) ?_
      refine wx_icmp_ge (tgt := 38) dX2_bring_27 (by decide) (fun h27 => ?_) (fun h27 => ?_)
      · rw [hf _ (by omega), hR i (by omega)] at h27
        have hno : ¬ R i < 1000 := fun w => absurd (show nI 1000 ≤ nI (R i) from h27) (nI_ge w (by omega))
        refine wx_inc (c := 1) dX2_bring_38 rfl (by decide) (Nat.le_of_ble_eq_true rfl) rfl ?_
        refine wx_goto (tgt := 12) dX2_bring_41 (by decide) ?_
        rw [nI_1]
        exact ih (i + 1) m1 r1 (by omega) hf hx (zBb_no hb hno)
      · rw [hf _ (by omega), hR i (by omega)] at h27
        have hye : R i < 1000 := Nat.not_le.mp (fun w => h27 (show nI 1000 ≤ nI (R i) from nI_le w (by have := hR0 i; omega)))
        refine wx_aload_n (i := 0) dX2_bring_30 rfl rfl ?_
        refine wx_iload_n (i := 1) dX2_bring_31 rfl rfl ?_
        refine wx_iload_n (i := 2) dX2_bring_32 rfl rfl ?_
        refine wx_iload dX2_bring_33 rfl ?_
        refine wx_V3 dX2_bring_35 zPV_X2_bringFrom zLk_X2_72 rfl (Nat.le_of_ble_eq_true rfl) (Nat.le_of_ble_eq_true rfl) (Or.inr rfl) ?_
        refine s_X2_bringFrom (pt := pt) (tk := tk) (had := R i) hu (by omega) (fun k hk => by rw [hf 119 (by omega)]; exact hp k hk) (by rw [hf 118 (by omega)]; exact htk) hx (fun x => Nat.le_trans (hb.1 x) (hr0 x)) (by rw [hf _ (by omega)]; exact hR i (by omega)) hye (fun m2 r2 hf2 hx2 hb2 => ?_)
        refine wx_r0 ?_
        refine wx_inc (c := 1) dX2_bring_38 rfl (by decide) (Nat.le_of_ble_eq_true rfl) rfl ?_
        refine wx_goto (tgt := 12) dX2_bring_41 (by decide) ?_
        rw [nI_1]
        exact ih (i + 1) m2 r2 (by omega) (fun c w => (hf2 c w).trans (hf c w)) hx2 (zBb_yes hb (by omega) hye hb2)
theorem s_X2_bring {d : Nat} {K : List Value → zS → Prop} {mm : zM} {pt : Nat → Int} {tk : Nat → Nat} {u nx : Nat} {R r0 : Nat → Nat} (hu : u ≤ nx ∧ nx < 6) (hp : ∀ k, k < u → mm 119 k = zi (pt k) ∧ 0 ≤ pt k ∧ pt k ≤ 200) (htk : mm 118 nx = nI (tk nx) ∧ 1 ≤ tk nx ∧ tk nx ≤ 100) (hr : ∀ x, x < 2101 → mm (120 + 1 + u) x = nI (r0 x)) (hr0 : ∀ x, r0 x ≤ 1000) (hR : ∀ x, x < 2101 → mm (120 + 1 + (nx + 1)) x = nI (R x)) (hR0 : ∀ x, R x ≤ 1000) (hK : ∀ (m2 : zM) (r1 : Nat → Nat), (∀ c, c ≠ 120 + 1 + u → m2 c = mm c) → (∀ x, x < 2101 → m2 (120 + 1 + u) x = nI (r1 x)) → zBb (zCe pt u) (tk nx) R r0 r1 2101 → K [] (zG m2))  : wm (d + 2) mX2_bring [.ref 117, .int (zi ((u : Int) - 1)), .int (nI nx)] (zG mm) K := by
  refine wm_of2 (L0 := [some (.ref 117), some (.int (zi ((u : Int) - 1))), some (.int (nI nx)), none, none]) zCm_X2_bring (Or.inl rfl) (Nat.le_of_ble_eq_true rfl) rfl ?_
  refine wx_aload_n (i := 0) dX2_bring_0 rfl rfl ?_
  refine wx_getRG (k := 117) (t := 120) dX2_bring_1 zF_X2_20 zKo_117 rfl (Nat.le_of_ble_eq_true rfl) zRf_117_2 ?_
  refine wx_iload_n (i := 2) dX2_bring_4 rfl rfl ?_
  refine wx_iconst (v := 1) dX2_bring_5 (by decide) ?_
  refine wx_iadd dX2_bring_6 ?_
  refine wx_aaldG (k := 120) (j := nx + 1) dX2_bring_7 zK_120 (Nat.le_of_ble_eq_true rfl) ?_ ?_ ?_
  · (rw [nI_1])
  · exact ⟨by omega, by decide⟩
  refine wx_astore_n (i := 3) dX2_bring_8 rfl (Nat.le_of_ble_eq_true rfl) rfl ?_
  refine wx_iconst (v := 0) dX2_bring_9 (by decide) ?_
  refine wx_istore dX2_bring_10 (Nat.le_of_ble_eq_true rfl) rfl ?_
  exact lp_bring hu hp htk hr hr0 hR hR0 hK 2101 0 mm r0 (by omega) (fun _ _ => rfl) hr (zBb_0 _ _ _ _)
