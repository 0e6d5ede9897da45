/-! readings, and one step of them, of both -/
theorem zsz {y : Int} (h : -1000000000 ≤ y ∧ y ≤ 1000000000) : (if zi y < 0 then - zi y else zi y) = zi (y.natAbs : Int) := by
  by_cases q : y < 0
  · rw [if_pos (by rw [zl_0, zi_lt (by omega) (by omega)]; exact q), zi_neg]
    exact congrArg zi (by omega)
  · rw [if_neg (by rw [zl_0, zi_lt (by omega) (by omega)]; exact q)]
    exact congrArg zi (by omega)
theorem zab {y : Int} (h : -1000000000 ≤ y ∧ y ≤ 1000000000) : (if 0 ≤ zi y then zi y else - zi y) = zi (y.natAbs : Int) := by
  by_cases q : 0 ≤ y
  · rw [if_pos (by rw [zl_0, zi_le (by omega) (by omega)]; exact q)]
    exact congrArg zi (by omega)
  · rw [if_neg (by rw [zl_0, zi_le (by omega) (by omega)]; exact q), zi_neg]
    exact congrArg zi (by omega)
/-- readings, shifts and the lie are such as they may be -/
def zOk (g : Nat → Nat → Int) (s : Nat → Int) (L : Int) : Prop := (∀ t i, g t i = 5000 ∨ (-1000 ≤ g t i ∧ g t i ≤ 1000)) ∧ (∀ t, -20 ≤ s t ∧ s t ≤ 20) ∧ 0 ≤ L ∧ L ≤ 50
def zMR (g : Nat → Nat → Int) (s : Nat → Int) (L : Int) (mm : zM) : Prop := (∀ t i, t < 3 → i < 15 → mm 131 (15 * t + i) = zi (g t i)) ∧ (∀ t, t < 3 → mm 144 t = zi (s t)) ∧ mm 128 7 = zi L
def zCR (g : Nat → Nat → Int) (s : Nat → Int) (L : Int) (mm : zM) : Prop := (∀ t i, t < 3 → i < 15 → mm (3 + 1 + t) i = zi (g t i)) ∧ (∀ t, t < 3 → mm 7 t = zi (s t)) ∧ mm 2 7 = zi L
theorem zMR_U {g : Nat → Nat → Int} {s : Nat → Int} {L : Int} {mm : zM} (h : zMR g s L mm) (v : Int32) : zMR g s L (zU mm 128 27 v) := ⟨fun t i h1 h2 => by rw [zU_ne (by decide)]; exact h.1 t i h1 h2, fun t h1 => by rw [zU_ne (by decide)]; exact h.2.1 t h1, by rw [zU_off (by decide)]; exact h.2.2⟩
/-- how many of the first tests a number serves -/
def zHo (g : Nat → Nat → Int) (s : Nat → Int) (L : Int) (i : Nat) (x : Int) : Nat → Int
  | 0 => 0
  | t + 1 => zHo g s L i x t + (if g t i ≠ 5000 ∧ ((g t i - s t - x).natAbs : Int) ≤ L then 1 else 0)
theorem zHo_y {g : Nat → Nat → Int} {s : Nat → Int} {L : Int} {i : Nat} {x : Int} {t : Nat} (h1 : ¬ g t i = 5000) (h2 : ((g t i - s t - x).natAbs : Int) ≤ L) : zHo g s L i x (t + 1) = zHo g s L i x t + 1 := by
  show _ + _ = _
  rw [if_pos ⟨h1, h2⟩]
theorem zHo_n {g : Nat → Nat → Int} {s : Nat → Int} {L : Int} {i : Nat} {x : Int} {t : Nat} (h : ¬ (g t i ≠ 5000 ∧ ((g t i - s t - x).natAbs : Int) ≤ L)) : zHo g s L i x (t + 1) = zHo g s L i x t := by
  show _ + _ = _
  rw [if_neg h]
  omega
theorem zHo_bd (g : Nat → Nat → Int) (s : Nat → Int) (L : Int) (i : Nat) (x : Int) : ∀ t : Nat, 0 ≤ zHo g s L i x t ∧ zHo g s L i x t ≤ t
  | 0 => ⟨Int.le_refl _, Int.le_refl _⟩
  | t + 1 => by
    have h := zHo_bd g s L i x t
    show 0 ≤ _ + _ ∧ _ + _ ≤ _
    by_cases q : g t i ≠ 5000 ∧ ((g t i - s t - x).natAbs : Int) ≤ L
    · rw [if_pos q]; omega
    · rw [if_neg q]; omega
theorem zHo_own {g : Nat → Nat → Int} {s : Nat → Int} {L : Int} {i : Nat} {x : Int} {t k : Nat} (h1 : ¬ g t i = 5000) (h2 : ((g t i - s t - x).natAbs : Int) ≤ L) (hk : t < k) : 1 ≤ zHo g s L i x k := by
  induction k with
  | zero => exact absurd hk (Nat.not_lt_zero _)
  | succ k ih =>
    by_cases e : t = k
    · subst e
      rw [zHo_y h1 h2]
      have := (zHo_bd g s L i x t).1
      omega
    · have := ih (by omega)
      show 1 ≤ _ + _
      by_cases q : g k i ≠ 5000 ∧ ((g k i - s k - x).natAbs : Int) ≤ L
      · rw [if_pos q]; omega
      · rw [if_neg q]; omega
/-- of the first tests: how many are told, how many the number serves at most, and the number -/
def zDs (g : Nat → Nat → Int) (s : Nat → Int) (L : Int) (i : Nat) : Nat → Int × Int × Int
  | 0 => (0, 0, 5000)
  | t + 1 => if g t i = 5000 then zDs g s L i t else if (zDs g s L i t).2.1 < zHo g s L i (g t i - s t - L) 3 ∨ (zHo g s L i (g t i - s t - L) 3 = (zDs g s L i t).2.1 ∧ g t i - s t - L < (zDs g s L i t).2.2) then ((zDs g s L i t).1 + 1, zHo g s L i (g t i - s t - L) 3, g t i - s t - L) else ((zDs g s L i t).1 + 1, (zDs g s L i t).2)
theorem zDs_g {g : Nat → Nat → Int} {s : Nat → Int} {L : Int} {i t : Nat} (h : g t i = 5000) : zDs g s L i (t + 1) = zDs g s L i t := by
  show (if _ then _ else _) = _
  rw [if_pos h]
theorem zDs_y {g : Nat → Nat → Int} {s : Nat → Int} {L : Int} {i t : Nat} (h : ¬ g t i = 5000) (h2 : (zDs g s L i t).2.1 < zHo g s L i (g t i - s t - L) 3 ∨ (zHo g s L i (g t i - s t - L) 3 = (zDs g s L i t).2.1 ∧ g t i - s t - L < (zDs g s L i t).2.2)) : zDs g s L i (t + 1) = ((zDs g s L i t).1 + 1, zHo g s L i (g t i - s t - L) 3, g t i - s t - L) := by
  show (if _ then _ else _) = _
  rw [if_neg h, if_pos h2]
theorem zDs_n {g : Nat → Nat → Int} {s : Nat → Int} {L : Int} {i t : Nat} (h : ¬ g t i = 5000) (h2 : ¬ ((zDs g s L i t).2.1 < zHo g s L i (g t i - s t - L) 3 ∨ (zHo g s L i (g t i - s t - L) 3 = (zDs g s L i t).2.1 ∧ g t i - s t - L < (zDs g s L i t).2.2))) : zDs g s L i (t + 1) = ((zDs g s L i t).1 + 1, (zDs g s L i t).2) := by
  show (if _ then _ else _) = _
  rw [if_neg h, if_neg h2]
theorem zDs_bd {g : Nat → Nat → Int} {s : Nat → Int} {L : Int} (hO : zOk g s L) (i : Nat) : ∀ t : Nat, (0 ≤ (zDs g s L i t).1 ∧ (zDs g s L i t).1 ≤ t) ∧ (0 ≤ (zDs g s L i t).2.1 ∧ (zDs g s L i t).2.1 ≤ 3) ∧ (-1100 ≤ (zDs g s L i t).2.2 ∧ (zDs g s L i t).2.2 ≤ 5000)
  | 0 => ⟨⟨Int.le_refl _, Int.le_refl _⟩, ⟨Int.le_refl _, by show (0 : Int) ≤ 3; decide⟩, by show (-1100 : Int) ≤ 5000; decide, Int.le_refl _⟩
  | t + 1 => by
    have h := zDs_bd hO i t
    by_cases q : g t i = 5000
    · rw [zDs_g q]; omega
    · have hg := hO.1 t i
      have hs := hO.2.1 t
      have hL := hO.2.2
      have hh := zHo_bd g s L i (g t i - s t - L) 3
      by_cases r : (zDs g s L i t).2.1 < zHo g s L i (g t i - s t - L) 3 ∨ (zHo g s L i (g t i - s t - L) 3 = (zDs g s L i t).2.1 ∧ g t i - s t - L < (zDs g s L i t).2.2)
      · rw [zDs_y q r]
        show (0 ≤ (zDs g s L i t).1 + 1 ∧ (zDs g s L i t).1 + 1 ≤ _) ∧ (0 ≤ zHo g s L i (g t i - s t - L) 3 ∧ zHo g s L i (g t i - s t - L) 3 ≤ 3) ∧ (-1100 ≤ g t i - s t - L ∧ g t i - s t - L ≤ 5000)
        omega
      · rw [zDs_n q r]
        show (0 ≤ (zDs g s L i t).1 + 1 ∧ (zDs g s L i t).1 + 1 ≤ _) ∧ (0 ≤ (zDs g s L i t).2.1 ∧ (zDs g s L i t).2.1 ≤ 3) ∧ (-1100 ≤ (zDs g s L i t).2.2 ∧ (zDs g s L i t).2.2 ≤ 5000)
        omega
theorem s_X9_isRead {d : Nat} {K : List Value → zS → Prop} {mm : zM} {g : Nat → Nat → Int} {s : Nat → Int} {L : Int} {t i : Nat} (hO : zOk g s L) (hM : zMR g s L mm) (ht : t < 3) (hi : i < 15) (hK : K [.int (if ¬ g t i = 5000 then (1 : Int32) else 0)] (zG mm)) : wm (d) mX9_isRead [.ref 128, .int (nI t), .int (nI i)] (zG mm) K := by
  refine wm_of2 (L0 := [some (.ref 128), some (.int (nI t)), some (.int (nI i))]) zCm_X9_isRead (Or.inl rfl) (Nat.le_of_ble_eq_true rfl) rfl ?_
  refine wx_aload_n (i := 0) dX9_isRead_0 rfl rfl ?_
  refine wx_getRG (k := 128) (t := 131) dX9_isRead_1 zF_X9_29 zKo_128 rfl (Nat.le_of_ble_eq_true rfl) zRf_128_6 ?_
  refine wx_bipush (v := 15) dX9_isRead_4 (by decide) ?_
  refine wx_iload_n (i := 1) dX9_isRead_6 rfl rfl ?_
  refine wx_imul dX9_isRead_7 ?_
  refine wx_iload_n (i := 2) dX9_isRead_8 rfl rfl ?_
  refine wx_iadd dX9_isRead_9 ?_
  refine wx_ialdG (k := 131) (j := 15 * t + i) dX9_isRead_10 zK_131 (Nat.le_of_ble_eq_true rfl) ?_ ?_ ?_
  · (simp only [zl_15, zi_nI, zi_mul, zi_add] <;> first | done | exact congrArg zi (by omega))
  · exact ⟨by omega, by decide⟩
  refine wx_sipush (v := 5000) dX9_isRead_11 (by decide) ?_
  refine wx_icmp_eq (tgt := 21) dX9_isRead_14 (by decide) (fun h14 => ?_) (fun h14 => ?_)
  · rw [hM.1 t i ht hi, zl_5000, zi_eq (by have := hO.1 t i; omega) (by omega)] at h14
    refine wx_iconst (v := 0) dX9_isRead_21 (by decide) ?_
    refine wx_iret dX9_isRead_22 rfl rfl (Or.inl rfl) ?_
    first | exact zki hK (if_pos h14) | exact zki hK (if_neg (fun w => w h14))
  · rw [hM.1 t i ht hi, zl_5000, zi_eq (by have := hO.1 t i; omega) (by omega)] at h14
    refine wx_iconst (v := 1) dX9_isRead_17 (by decide) ?_
    refine wx_goto (tgt := 22) dX9_isRead_18 (by decide) ?_
    refine wx_iret dX9_isRead_22 rfl rfl (Or.inl rfl) ?_
    first | exact zki hK (if_pos h14) | exact zki hK (if_neg (fun w => w h14))
theorem s_X9_shifted {d : Nat} {K : List Value → zS → Prop} {mm : zM} {g : Nat → Nat → Int} {s : Nat → Int} {L : Int} {t i : Nat} (hM : zMR g s L mm) (ht : t < 3) (hi : i < 15) (hK : K [.int (zi (g t i - s t))] (zG mm)) : wm (d) mX9_shifted [.ref 128, .int (nI t), .int (nI i)] (zG mm) K := by
  refine wm_of2 (L0 := [some (.ref 128), some (.int (nI t)), some (.int (nI i))]) zCm_X9_shifted (Or.inl rfl) (Nat.le_of_ble_eq_true rfl) rfl ?_
  refine wx_aload_n (i := 0) dX9_shifted_0 rfl rfl ?_
  refine wx_getRG (k := 128) (t := 131) dX9_shifted_1 zF_X9_29 zKo_128 rfl (Nat.le_of_ble_eq_true rfl) zRf_128_6 ?_
  refine wx_bipush (v := 15) dX9_shifted_4 (by decide) ?_
  refine wx_iload_n (i := 1) dX9_shifted_6 rfl rfl ?_
  refine wx_imul dX9_shifted_7 ?_
  refine wx_iload_n (i := 2) dX9_shifted_8 rfl rfl ?_
  refine wx_iadd dX9_shifted_9 ?_
  refine wx_ialdG (k := 131) (j := 15 * t + i) dX9_shifted_10 zK_131 (Nat.le_of_ble_eq_true rfl) ?_ ?_ ?_
  · (simp only [zl_15, zi_nI, zi_mul, zi_add] <;> first | done | exact congrArg zi (by omega))
  · exact ⟨by omega, by decide⟩
  refine wx_aload_n (i := 0) dX9_shifted_11 rfl rfl ?_
  refine wx_getRG (k := 128) (t := 144) dX9_shifted_12 zF_X9_74 zKo_128 rfl (Nat.le_of_ble_eq_true rfl) zRf_128_25 ?_
  refine wx_iload_n (i := 1) dX9_shifted_15 rfl rfl ?_
  refine wx_ialdG (k := 144) dX9_shifted_16 zK_144 (Nat.le_of_ble_eq_true rfl) rfl ?_ ?_
  · exact ⟨by omega, by decide⟩
  refine wx_isub dX9_shifted_17 ?_
  refine wx_iret dX9_shifted_18 rfl rfl (Or.inl rfl) ?_
  exact zki hK (by rw [hM.1 t i ht hi, hM.2.1 t ht, zi_sub])
theorem lp_holds {d : Nat} {K : List Value → zS → Prop} {mm : zM} {g : Nat → Nat → Int} {s : Nat → Int} {L : Int} {w : Nat} {x : Int} (hO : zOk g s L) (hM : zMR g s L mm) (hw : w < 15) (hx : -3000 ≤ x ∧ x ≤ 3000) (hK : K [.int (zi (zHo g s L w x 3))] (zG mm)) : ∀ c i : Nat, i + c = 3 → wx (d + 2) mX9_holds 5 [some (.ref 128), some (.int (nI w)), some (.int (zi x)), some (.int (zi (zHo g s L w x i))), some (.int (nI i))] [] (zG mm) K := by
  intro c
  induction c with
  | zero =>
    intro i hi 
    have hL := hO.2.2
    refine wx_iload dX9_holds_5 rfl ?_
    refine wx_iconst (v := 3) dX9_holds_7 (by decide) ?_
    refine wx_icmp_ge (tgt := 54) dX9_holds_8 (by decide) (fun h8 => ?_) (fun h8 => ?_)
    · skip
      have hin : i = 3 := by omega
      subst hin
      refine wx_iload_n (i := 3) dX9_holds_54 rfl rfl ?_
      refine wx_iret dX9_holds_55 rfl rfl (Or.inl rfl) ?_
      exact hK
    · exact absurd (show nI 3 ≤ nI i from nI_le (by omega) (by omega)) h8 --end
  | succ c ih =>
    intro i hi 
    have hL := hO.2.2
    refine wx_iload dX9_holds_5 rfl ?_
    refine wx_iconst (v := 3) dX9_holds_7 (by decide) ?_
    refine wx_icmp_ge (tgt := 54) dX9_holds_8 (by decide) (fun h8 => ?_) (fun h8 => ?_)
    · exact absurd (show nI 3 ≤ nI i from h8) (nI_ge (by omega) (by omega)) --end
    · skip
      refine wx_iload_n (i := 3) dX9_holds_11 rfl rfl ?_
      refine wx_aload_n (i := 0) dX9_holds_12 rfl rfl ?_
      refine wx_iload dX9_holds_13 rfl ?_
      refine wx_iload_n (i := 1) dX9_holds_15 rfl rfl ?_
      refine wx_V2 dX9_holds_16 zPV_X9_isRead zLk_X9_137 rfl (Nat.le_of_ble_eq_true rfl) (Nat.le_of_ble_eq_true rfl) (Or.inr rfl) ?_
      refine s_X9_isRead hO hM (by omega) hw ?_
      refine wx_r1 ?_
      refine wx_eqb (tgt := 45) dX9_holds_19 (by decide) (fun h19 => ?_) (fun h19 => ?_)
      · have hs : zi (zHo g s L w x i) + 0 = zi (zHo g s L w x (i + 1)) := by rw [zHo_n (fun u => h19 u.1), zl_0, zi_add] <;> first | done | exact congrArg zi (by omega)
        refine wx_iconst (v := 0) dX9_holds_45 (by decide) ?_
        refine wx_iadd dX9_holds_46 ?_
        refine wx_istore_n (i := 3) dX9_holds_47 rfl (Nat.le_of_ble_eq_true rfl) rfl ?_
        refine wx_inc (c := 1) dX9_holds_48 rfl (by decide) (Nat.le_of_ble_eq_true rfl) rfl ?_
        refine wx_goto (tgt := 5) dX9_holds_51 (by decide) ?_
        rw [nI_1, hs]
        exact ih (i + 1) (by omega)
      · skip
        refine wx_aload_n (i := 0) dX9_holds_22 rfl rfl ?_
        refine wx_iload dX9_holds_23 rfl ?_
        refine wx_iload_n (i := 1) dX9_holds_25 rfl rfl ?_
        refine wx_V2 dX9_holds_26 zPV_X9_shifted zLk_X9_141 rfl (Nat.le_of_ble_eq_true rfl) (Nat.le_of_ble_eq_true rfl) (Or.inr rfl) ?_
        refine s_X9_shifted hM (by omega) hw ?_
        refine wx_r1 ?_
        refine wx_iload_n (i := 2) dX9_holds_29 rfl rfl ?_
        refine wx_isub dX9_holds_30 ?_
        refine wx_S1 dX9_holds_31 zPS_X9_size zLk_X9_145 (Nat.le_of_ble_eq_true rfl) (Or.inr rfl) ?_
        refine s_X9_size _ ?_
        rw [zi_sub, zsz (by have := hO.1 i w; have := hO.2.1 i; omega)]
        refine wx_r1 ?_
        refine wx_aload_n (i := 0) dX9_holds_34 rfl rfl ?_
        refine wx_getIG (k := 128) dX9_holds_35 zF_X9_32 zKo_128 rfl (Nat.le_of_ble_eq_true rfl) ?_
        refine wx_icmp_gt (tgt := 45) dX9_holds_38 (by decide) (fun h38 => ?_) (fun h38 => ?_)
        · rw [hM.2.2, zi_lt (by omega) (by have := hO.1 i w; have := hO.2.1 i; omega)] at h38
          have hs : zi (zHo g s L w x i) + 0 = zi (zHo g s L w x (i + 1)) := by rw [zHo_n (fun u => absurd u.2 (by omega)), zl_0, zi_add] <;> first | done | exact congrArg zi (by omega)
          refine wx_iconst (v := 0) dX9_holds_45 (by decide) ?_
          refine wx_iadd dX9_holds_46 ?_
          refine wx_istore_n (i := 3) dX9_holds_47 rfl (Nat.le_of_ble_eq_true rfl) rfl ?_
          refine wx_inc (c := 1) dX9_holds_48 rfl (by decide) (Nat.le_of_ble_eq_true rfl) rfl ?_
          refine wx_goto (tgt := 5) dX9_holds_51 (by decide) ?_
          rw [nI_1, hs]
          exact ih (i + 1) (by omega)
        · rw [hM.2.2, zi_lt (by omega) (by have := hO.1 i w; have := hO.2.1 i; omega)] at h38
          have hs : zi (zHo g s L w x i) + 1 = zi (zHo g s L w x (i + 1)) := by rw [zHo_y h19 (by omega), zl_1, zi_add]
          refine wx_iconst (v := 1) dX9_holds_41 (by decide) ?_
          refine wx_goto (tgt := 46) dX9_holds_42 (by decide) ?_
          refine wx_iadd dX9_holds_46 ?_
          refine wx_istore_n (i := 3) dX9_holds_47 rfl (Nat.le_of_ble_eq_true rfl) rfl ?_
          refine wx_inc (c := 1) dX9_holds_48 rfl (by decide) (Nat.le_of_ble_eq_true rfl) rfl ?_
          refine wx_goto (tgt := 5) dX9_holds_51 (by decide) ?_
          rw [nI_1, hs]
          exact ih (i + 1) (by omega)
theorem s_X9_holds {d : Nat} {K : List Value → zS → Prop} {mm : zM} {g : Nat → Nat → Int} {s : Nat → Int} {L : Int} {w : Nat} {x : Int} (hO : zOk g s L) (hM : zMR g s L mm) (hw : w < 15) (hx : -3000 ≤ x ∧ x ≤ 3000) (hK : K [.int (zi (zHo g s L w x 3))] (zG mm)) : wm (d + 2) mX9_holds [.ref 128, .int (nI w), .int (zi x)] (zG mm) K := by
  refine wm_of2 (L0 := [some (.ref 128), some (.int (nI w)), some (.int (zi x)), none, none]) zCm_X9_holds (Or.inl rfl) (Nat.le_of_ble_eq_true rfl) rfl ?_
  refine wx_iconst (v := 0) dX9_holds_0 (by decide) ?_
  refine wx_istore_n (i := 3) dX9_holds_1 rfl (Nat.le_of_ble_eq_true rfl) rfl ?_
  refine wx_iconst (v := 0) dX9_holds_2 (by decide) ?_
  refine wx_istore dX9_holds_3 (Nat.le_of_ble_eq_true rfl) rfl ?_
  exact lp_holds hO hM hw hx hK 3 0 (by omega)
theorem lp_served {d : Nat} {K : List Value → zS → Prop} {mm : zM} {g : Nat → Nat → Int} {s : Nat → Int} {L : Int} {w : Nat} {x : Int} (hO : zOk g s L) (hM : zCR g s L mm) (hw : w < 15) (hx : -3000 ≤ x ∧ x ≤ 3000) (hK : K [.int (zi (zHo g s L w x 3))] (zG mm)) : ∀ c i : Nat, i + c = 3 → ∀ y : Option Value, wx (d + 2) mX3_servedBy 5 [some (.ref 2), some (.int (zi x)), some (.int (nI w)), some (.int (zi (zHo g s L w x i))), some (.int (nI i)), y] [] (zG mm) K := by
  intro c
  induction c with
  | zero =>
    intro i hi y
    have hL := hO.2.2
    refine wx_iload dX3_servedBy_5 rfl ?_
    refine wx_iconst (v := 3) dX3_servedBy_7 (by decide) ?_
    refine wx_icmp_ge (tgt := 61) dX3_servedBy_8 (by decide) (fun h8 => ?_) (fun h8 => ?_)
    · skip
      have hin : i = 3 := by omega
      subst hin
      refine wx_iload_n (i := 3) dX3_servedBy_61 rfl rfl ?_
      refine wx_iret dX3_servedBy_62 rfl rfl (Or.inl rfl) ?_
      exact hK
    · exact absurd (show nI 3 ≤ nI i from nI_le (by omega) (by omega)) h8 --end
  | succ c ih =>
    intro i hi y
    have hL := hO.2.2
    refine wx_iload dX3_servedBy_5 rfl ?_
    refine wx_iconst (v := 3) dX3_servedBy_7 (by decide) ?_
    refine wx_icmp_ge (tgt := 61) dX3_servedBy_8 (by decide) (fun h8 => ?_) (fun h8 => ?_)
    · exact absurd (show nI 3 ≤ nI i from h8) (nI_ge (by omega) (by omega)) --end
    · skip
      refine wx_aload_n (i := 0) dX3_servedBy_11 rfl rfl ?_
      refine wx_getRG (k := 2) (t := 3) dX3_servedBy_12 zF_X3_11 zKo_2 rfl (Nat.le_of_ble_eq_true rfl) zRf_2_0 ?_
      refine wx_iload dX3_servedBy_15 rfl ?_
      refine wx_aaldG (k := 3) (j := i) dX3_servedBy_17 zK_3 (Nat.le_of_ble_eq_true rfl) rfl ?_ ?_
      · exact ⟨by omega, by decide⟩
      refine wx_iload_n (i := 2) dX3_servedBy_18 rfl rfl ?_
      refine wx_ialdG dX3_servedBy_19 (zKin_3 _ (by omega)) (zKlt_3 _ (by omega)) rfl ?_ ?_
      · exact ⟨hw, by decide⟩
      refine wx_istore dX3_servedBy_20 (Nat.le_of_ble_eq_true rfl) rfl ?_
      refine wx_iload dX3_servedBy_22 rfl ?_
      refine wx_sipush (v := 5000) dX3_servedBy_24 (by decide) ?_
      refine wx_icmp_eq (tgt := 55) dX3_servedBy_27 (by decide) (fun h27 => ?_) (fun h27 => ?_)
      · rw [hM.1 i w (by omega) hw, zl_5000, zi_eq (by have := hO.1 i w; omega) (by omega)] at h27
        have hs : zi (zHo g s L w x i) = zi (zHo g s L w x (i + 1)) := by rw [zHo_n (fun u => u.1 h27)]
        refine wx_inc (c := 1) dX3_servedBy_55 rfl (by decide) (Nat.le_of_ble_eq_true rfl) rfl ?_
        refine wx_goto (tgt := 5) dX3_servedBy_58 (by decide) ?_
        rw [nI_1, hs]
        exact ih (i + 1) (by omega) _
      · rw [hM.1 i w (by omega) hw, zl_5000, zi_eq (by have := hO.1 i w; omega) (by omega)] at h27
        
        refine wx_iload dX3_servedBy_30 rfl ?_
        refine wx_aload_n (i := 0) dX3_servedBy_32 rfl rfl ?_
        refine wx_getRG (k := 2) (t := 7) dX3_servedBy_33 zF_X3_16 zKo_2 rfl (Nat.le_of_ble_eq_true rfl) zRf_2_1 ?_
        refine wx_iload dX3_servedBy_36 rfl ?_
        refine wx_ialdG (k := 7) dX3_servedBy_38 zK_7 (Nat.le_of_ble_eq_true rfl) rfl ?_ ?_
        · exact ⟨by omega, by decide⟩
        refine wx_isub dX3_servedBy_39 ?_
        refine wx_iload_n (i := 1) dX3_servedBy_40 rfl rfl ?_
        refine wx_isub dX3_servedBy_41 ?_
        refine wx_S1 dX3_servedBy_42 zPS_J9_abs_0f7a4 zLk_X3_83 (Nat.le_of_ble_eq_true rfl) (Or.inr rfl) ?_
        refine s_J9_abs_0f7a4 _ ?_
        refine wx_r1 ?_
        refine wx_aload_n (i := 0) dX3_servedBy_45 rfl rfl ?_
        refine wx_getIG (k := 2) dX3_servedBy_46 zF_X3_35 zKo_2 rfl (Nat.le_of_ble_eq_true rfl) ?_
        refine wx_icmp_gt (tgt := 55) dX3_servedBy_49 (by decide) (fun h49 => ?_) (fun h49 => ?_)
        · rw [hM.2.2, hM.1 i w (by omega) hw, hM.2.1 i (by omega), zi_sub, zi_sub, zab (by have := hO.1 i w; have := hO.2.1 i; omega), zi_lt (by omega) (by have := hO.1 i w; have := hO.2.1 i; omega)] at h49
          have hs : zi (zHo g s L w x i) = zi (zHo g s L w x (i + 1)) := by rw [zHo_n (fun u => absurd u.2 (by omega))]
          refine wx_inc (c := 1) dX3_servedBy_55 rfl (by decide) (Nat.le_of_ble_eq_true rfl) rfl ?_
          refine wx_goto (tgt := 5) dX3_servedBy_58 (by decide) ?_
          rw [nI_1, hs]
          exact ih (i + 1) (by omega) _
        · rw [hM.2.2, hM.1 i w (by omega) hw, hM.2.1 i (by omega), zi_sub, zi_sub, zab (by have := hO.1 i w; have := hO.2.1 i; omega), zi_lt (by omega) (by have := hO.1 i w; have := hO.2.1 i; omega)] at h49
          have hs : zi (zHo g s L w x i) + 1 = zi (zHo g s L w x (i + 1)) := by rw [zHo_y h27 (by omega), zl_1, zi_add]
          refine wx_inc (c := 1) dX3_servedBy_52 rfl (by decide) (Nat.le_of_ble_eq_true rfl) rfl ?_
          refine wx_inc (c := 1) dX3_servedBy_55 rfl (by decide) (Nat.le_of_ble_eq_true rfl) rfl ?_
          refine wx_goto (tgt := 5) dX3_servedBy_58 (by decide) ?_
          rw [nI_1, hs]
          exact ih (i + 1) (by omega) _
theorem s_X3_servedBy {d : Nat} {K : List Value → zS → Prop} {mm : zM} {g : Nat → Nat → Int} {s : Nat → Int} {L : Int} {w : Nat} {x : Int} (hO : zOk g s L) (hM : zCR g s L mm) (hw : w < 15) (hx : -3000 ≤ x ∧ x ≤ 3000) (hK : K [.int (zi (zHo g s L w x 3))] (zG mm)) : wm (d + 2) mX3_servedBy [.ref 2, .int (zi x), .int (nI w)] (zG mm) K := by
  refine wm_of2 (L0 := [some (.ref 2), some (.int (zi x)), some (.int (nI w)), none, none, none]) zCm_X3_servedBy (Or.inl rfl) (Nat.le_of_ble_eq_true rfl) rfl ?_
  refine wx_iconst (v := 0) dX3_servedBy_0 (by decide) ?_
  refine wx_istore_n (i := 3) dX3_servedBy_1 rfl (Nat.le_of_ble_eq_true rfl) rfl ?_
  refine wx_iconst (v := 0) dX3_servedBy_2 (by decide) ?_
  refine wx_istore dX3_servedBy_3 (Nat.le_of_ble_eq_true rfl) rfl ?_
  exact lp_served hO hM hw hx hK 3 0 (by omega) _
theorem zU_zU {mm : zM} {k j : Nat} {a b : Int32} : zU (zU mm k j a) k j b = zU mm k j b := by
  funext c i
  by_cases h : c = k ∧ i = j
  · obtain ⟨rfl, rfl⟩ := h
    rw [zU_same, zU_same]
  · rw [zU_off h, zU_off h, zU_off h]
theorem lp_dropped {d : Nat} {K : List Value → zS → Prop} {mm : zM} {g : Nat → Nat → Int} {s : Nat → Int} {L : Int} {w : Nat} (hO : zOk g s L) (hM : zMR g s L mm) (hw : w < 15) (hK : K [.int (zi ((zDs g s L w 3).1 - (zDs g s L w 3).2.1))] (zG (zU mm 128 27 (zi (zDs g s L w 3).2.2)))) : ∀ (c i : Nat) (y z : Option Value), i + c = 3 → wx (d + 3) mX9_dropped 14 [some (.ref 128), some (.int (nI w)), some (.int (zi (zDs g s L w i).1)), some (.int (zi (zDs g s L w i).2.1)), some (.int (nI i)), y, z] [] (zG (zU mm 128 27 (zi (zDs g s L w i).2.2))) K := by
  intro c
  induction c with
  | zero =>
    intro i y z hi
    have hin : i = 3 := by omega
    subst hin
    refine wx_iload dX9_dropped_14 rfl ?_
    refine wx_iconst (v := 3) dX9_dropped_16 (by decide) ?_
    refine wx_icmp_ge (tgt := 130) dX9_dropped_17 (by decide) (fun h17 => ?_) (fun h17 => ?_)
    · skip
      refine wx_iload_n (i := 2) dX9_dropped_130 rfl rfl ?_
      refine wx_iload_n (i := 3) dX9_dropped_131 rfl rfl ?_
      refine wx_isub dX9_dropped_132 ?_
      refine wx_iret dX9_dropped_133 rfl rfl (Or.inl rfl) ?_
      exact zki hK (zi_sub _ _).symm
    · exact absurd (show nI 3 ≤ nI 3 from nI_le (by omega) (by omega)) h17 --end
  | succ c ih =>
    intro i y z hi
    have hL := hO.2.2
    have hb := zDs_bd hO w i
    have hgb := hO.1 i w
    have hsb := hO.2.1 i
    have hhb := zHo_bd g s L w (g i w - s i - L) 3
    have hz0 : zi (zDs g s L w i).1 + 0 = zi (zDs g s L w i).1 := by rw [zl_0, zi_add]; exact congrArg zi (by omega)
    by_cases h28 : g i w = 5000
    · have hd := zDs_g (s := s) (L := L) h28
      refine wx_iload dX9_dropped_14 rfl ?_
      refine wx_iconst (v := 3) dX9_dropped_16 (by decide) ?_
      refine wx_icmp_ge (tgt := 130) dX9_dropped_17 (by decide) (fun h17 => ?_) (fun h17 => ?_)
      · exact absurd (show nI 3 ≤ nI i from h17) (nI_ge (by omega) (by omega)) --end
      · skip
        refine wx_iload_n (i := 2) dX9_dropped_20 rfl rfl ?_
        refine wx_aload_n (i := 0) dX9_dropped_21 rfl rfl ?_
        refine wx_iload dX9_dropped_22 rfl ?_
        refine wx_iload_n (i := 1) dX9_dropped_24 rfl rfl ?_
        refine wx_V2 dX9_dropped_25 zPV_X9_isRead zLk_X9_137 rfl (Nat.le_of_ble_eq_true rfl) (Nat.le_of_ble_eq_true rfl) (Or.inr rfl) ?_
        refine s_X9_isRead hO (zMR_U hM _) (by omega) hw ?_
        refine wx_r1 ?_
        refine wx_eqb (tgt := 35) dX9_dropped_28 (by decide) (fun hq28 => ?_) (fun hq28 => ?_)
        · skip
          refine wx_iconst (v := 0) dX9_dropped_35 (by decide) ?_
          refine wx_iadd dX9_dropped_36 ?_
          refine wx_istore_n (i := 2) dX9_dropped_37 rfl (Nat.le_of_ble_eq_true rfl) rfl ?_
          refine wx_aload_n (i := 0) dX9_dropped_38 rfl rfl ?_
          refine wx_iload dX9_dropped_39 rfl ?_
          refine wx_iload_n (i := 1) dX9_dropped_41 rfl rfl ?_
          refine wx_V2 dX9_dropped_42 zPV_X9_isRead zLk_X9_137 rfl (Nat.le_of_ble_eq_true rfl) (Nat.le_of_ble_eq_true rfl) (Or.inr rfl) ?_
          refine s_X9_isRead hO (zMR_U hM _) (by omega) hw ?_
          refine wx_r1 ?_
          refine wx_eqb (tgt := 63) dX9_dropped_45 (by decide) (fun hq45 => ?_) (fun hq45 => ?_)
          · skip
            refine wx_iconst (v := 0) dX9_dropped_63 (by decide) ?_
            refine wx_istore dX9_dropped_64 (Nat.le_of_ble_eq_true rfl) rfl ?_
            refine wx_aload_n (i := 0) dX9_dropped_66 rfl rfl ?_
            refine wx_iload dX9_dropped_67 rfl ?_
            refine wx_iload_n (i := 1) dX9_dropped_69 rfl rfl ?_
            refine wx_V2 dX9_dropped_70 zPV_X9_isRead zLk_X9_137 rfl (Nat.le_of_ble_eq_true rfl) (Nat.le_of_ble_eq_true rfl) (Or.inr rfl) ?_
            refine s_X9_isRead hO (zMR_U hM _) (by omega) hw ?_
            refine wx_r1 ?_
            refine wx_eqb (tgt := 86) dX9_dropped_73 (by decide) (fun hq73 => ?_) (fun hq73 => ?_)
            · skip
              refine wx_iconst (v := 0) dX9_dropped_86 (by decide) ?_
              refine wx_istore dX9_dropped_87 (Nat.le_of_ble_eq_true rfl) rfl ?_
              refine wx_iload dX9_dropped_89 rfl ?_
              refine wx_iload_n (i := 3) dX9_dropped_91 rfl rfl ?_
              refine wx_icmp_gt (tgt := 115) dX9_dropped_92 (by decide) (fun h92 => ?_) (fun h92 => ?_)
              · rw [show (0 : Int32) = zi 0 from rfl, zi_lt (by omega) (by omega)] at h92
                exact absurd h92 (by omega) --end
              · skip
                refine wx_iload dX9_dropped_95 rfl ?_
                refine wx_iload_n (i := 3) dX9_dropped_97 rfl rfl ?_
                refine wx_icmp_ne (tgt := 124) dX9_dropped_98 (by decide) (fun h98 => ?_) (fun h98 => ?_)
                · skip
                  refine wx_inc (c := 1) dX9_dropped_124 rfl (by decide) (Nat.le_of_ble_eq_true rfl) rfl ?_
                  refine wx_goto (tgt := 14) dX9_dropped_127 (by decide) ?_
                  rw [nI_1, hz0]
                  have e := ih (i + 1) (some (.int 0)) (some (.int 0)) (by omega)
                  rw [hd] at e
                  exact e
                · skip
                  refine wx_iload dX9_dropped_101 rfl ?_
                  refine wx_if_le (tgt := 124) dX9_dropped_103 (by decide) (fun h103 => ?_) (fun h103 => ?_)
                  · skip
                    refine wx_inc (c := 1) dX9_dropped_124 rfl (by decide) (Nat.le_of_ble_eq_true rfl) rfl ?_
                    refine wx_goto (tgt := 14) dX9_dropped_127 (by decide) ?_
                    rw [nI_1, hz0]
                    have e := ih (i + 1) (some (.int 0)) (some (.int 0)) (by omega)
                    rw [hd] at e
                    exact e
                  · exact absurd (show (0 : Int32) ≤ 0 by decide) h103 --end
            · exact absurd h28 hq73 --end
          · exact absurd h28 hq45 --end
        · exact absurd h28 hq28 --end
    · skip
      refine wx_iload dX9_dropped_14 rfl ?_
      refine wx_iconst (v := 3) dX9_dropped_16 (by decide) ?_
      refine wx_icmp_ge (tgt := 130) dX9_dropped_17 (by decide) (fun h17 => ?_) (fun h17 => ?_)
      · exact absurd (show nI 3 ≤ nI i from h17) (nI_ge (by omega) (by omega)) --end
      · skip
        refine wx_iload_n (i := 2) dX9_dropped_20 rfl rfl ?_
        refine wx_aload_n (i := 0) dX9_dropped_21 rfl rfl ?_
        refine wx_iload dX9_dropped_22 rfl ?_
        refine wx_iload_n (i := 1) dX9_dropped_24 rfl rfl ?_
        refine wx_V2 dX9_dropped_25 zPV_X9_isRead zLk_X9_137 rfl (Nat.le_of_ble_eq_true rfl) (Nat.le_of_ble_eq_true rfl) (Or.inr rfl) ?_
        refine s_X9_isRead hO (zMR_U hM _) (by omega) hw ?_
        refine wx_r1 ?_
        refine wx_eqb (tgt := 35) dX9_dropped_28 (by decide) (fun hq28 => ?_) (fun hq28 => ?_)
        · exact absurd h28 hq28 --end
        · skip
          refine wx_iconst (v := 1) dX9_dropped_31 (by decide) ?_
          refine wx_goto (tgt := 36) dX9_dropped_32 (by decide) ?_
          refine wx_iadd dX9_dropped_36 ?_
          refine wx_istore_n (i := 2) dX9_dropped_37 rfl (Nat.le_of_ble_eq_true rfl) rfl ?_
          refine wx_aload_n (i := 0) dX9_dropped_38 rfl rfl ?_
          refine wx_iload dX9_dropped_39 rfl ?_
          refine wx_iload_n (i := 1) dX9_dropped_41 rfl rfl ?_
          refine wx_V2 dX9_dropped_42 zPV_X9_isRead zLk_X9_137 rfl (Nat.le_of_ble_eq_true rfl) (Nat.le_of_ble_eq_true rfl) (Or.inr rfl) ?_
          refine s_X9_isRead hO (zMR_U hM _) (by omega) hw ?_
          refine wx_r1 ?_
          refine wx_eqb (tgt := 63) dX9_dropped_45 (by decide) (fun hq45 => ?_) (fun hq45 => ?_)
          · exact absurd h28 hq45 --end
          · skip
            refine wx_aload_n (i := 0) dX9_dropped_48 rfl rfl ?_
            refine wx_iload dX9_dropped_49 rfl ?_
            refine wx_iload_n (i := 1) dX9_dropped_51 rfl rfl ?_
            refine wx_V2 dX9_dropped_52 zPV_X9_shifted zLk_X9_141 rfl (Nat.le_of_ble_eq_true rfl) (Nat.le_of_ble_eq_true rfl) (Or.inr rfl) ?_
            refine s_X9_shifted (zMR_U hM _) (by omega) hw ?_
            refine wx_r1 ?_
            refine wx_aload_n (i := 0) dX9_dropped_55 rfl rfl ?_
            refine wx_getIG (k := 128) dX9_dropped_56 zF_X9_32 zKo_128 rfl (Nat.le_of_ble_eq_true rfl) ?_
            refine wx_isub dX9_dropped_59 ?_
            refine wx_goto (tgt := 64) dX9_dropped_60 (by decide) ?_
            refine wx_istore dX9_dropped_64 (Nat.le_of_ble_eq_true rfl) rfl ?_
            refine wx_aload_n (i := 0) dX9_dropped_66 rfl rfl ?_
            refine wx_iload dX9_dropped_67 rfl ?_
            refine wx_iload_n (i := 1) dX9_dropped_69 rfl rfl ?_
            refine wx_V2 dX9_dropped_70 zPV_X9_isRead zLk_X9_137 rfl (Nat.le_of_ble_eq_true rfl) (Nat.le_of_ble_eq_true rfl) (Or.inr rfl) ?_
            refine s_X9_isRead hO (zMR_U hM _) (by omega) hw ?_
            refine wx_r1 ?_
            refine wx_eqb (tgt := 86) dX9_dropped_73 (by decide) (fun hq73 => ?_) (fun hq73 => ?_)
            · exact absurd h28 hq73 --end
            · skip
              refine wx_aload_n (i := 0) dX9_dropped_76 rfl rfl ?_
              refine wx_iload_n (i := 1) dX9_dropped_77 rfl rfl ?_
              refine wx_iload dX9_dropped_78 rfl ?_
              refine wx_V2 dX9_dropped_80 zPV_X9_holds zLk_X9_152 rfl (Nat.le_of_ble_eq_true rfl) (Nat.le_of_ble_eq_true rfl) (Or.inr rfl) ?_
              rw [show zU mm 128 27 (zi (zDs g s L w i).2.2) 128 7 = zi L from (zMR_U hM _).2.2, zi_sub]
              refine s_X9_holds hO (zMR_U hM _) hw (by omega) ?_
              refine wx_r1 ?_
              refine wx_goto (tgt := 87) dX9_dropped_83 (by decide) ?_
              refine wx_istore dX9_dropped_87 (Nat.le_of_ble_eq_true rfl) rfl ?_
              refine wx_iload dX9_dropped_89 rfl ?_
              refine wx_iload_n (i := 3) dX9_dropped_91 rfl rfl ?_
              refine wx_icmp_gt (tgt := 115) dX9_dropped_92 (by decide) (fun h92 => ?_) (fun h92 => ?_)
              · rw [zi_lt (by omega) (by omega)] at h92
                have hd := zDs_y h28 (Or.inl h92)
                refine wx_iload dX9_dropped_115 rfl ?_
                refine wx_istore_n (i := 3) dX9_dropped_117 rfl (Nat.le_of_ble_eq_true rfl) rfl ?_
                refine wx_aload_n (i := 0) dX9_dropped_118 rfl rfl ?_
                refine wx_iload dX9_dropped_119 rfl ?_
                refine wx_putIG (k := 128) dX9_dropped_121 zF_X9_149 zKo_128 rfl (Nat.le_of_ble_eq_true rfl) rfl rfl ?_
                refine wx_inc (c := 1) dX9_dropped_124 rfl (by decide) (Nat.le_of_ble_eq_true rfl) rfl ?_
                refine wx_goto (tgt := 14) dX9_dropped_127 (by decide) ?_
                rw [nI_1, zU_zU, zl_1, zi_add]
                have e := ih (i + 1) (some (.int (zi (g i w - s i - L)))) (some (.int (zi (zHo g s L w (g i w - s i - L) 3)))) (by omega)
                rw [hd] at e
                exact e
              · rw [zi_lt (by omega) (by omega)] at h92
                
                refine wx_iload dX9_dropped_95 rfl ?_
                refine wx_iload_n (i := 3) dX9_dropped_97 rfl rfl ?_
                refine wx_icmp_ne (tgt := 124) dX9_dropped_98 (by decide) (fun h98 => ?_) (fun h98 => ?_)
                · rw [zi_eq (by omega) (by omega)] at h98
                  have hd := zDs_n h28 (fun u => u.elim (fun u => h92 u) (fun u => h98 u.1))
                  refine wx_inc (c := 1) dX9_dropped_124 rfl (by decide) (Nat.le_of_ble_eq_true rfl) rfl ?_
                  refine wx_goto (tgt := 14) dX9_dropped_127 (by decide) ?_
                  rw [nI_1, zl_1, zi_add]
                  have e := ih (i + 1) (some (.int (zi (g i w - s i - L)))) (some (.int (zi (zHo g s L w (g i w - s i - L) 3)))) (by omega)
                  rw [hd] at e
                  exact e
                · rw [zi_eq (by omega) (by omega)] at h98
                  
                  refine wx_iload dX9_dropped_101 rfl ?_
                  refine wx_if_le (tgt := 124) dX9_dropped_103 (by decide) (fun h103 => ?_) (fun h103 => ?_)
                  · rw [zl_0, zi_le (by omega) (by omega)] at h103
                    have h1 := zHo_own (s := s) (L := L) (x := (g i w - s i - L)) h28 (by omega) (show i < 3 by omega)
                    exact absurd h1 (by omega) --end
                  · skip
                    refine wx_iload dX9_dropped_106 rfl ?_
                    refine wx_aload_n (i := 0) dX9_dropped_108 rfl rfl ?_
                    refine wx_getIG (k := 128) dX9_dropped_109 zF_X9_149 zKo_128 rfl (Nat.le_of_ble_eq_true rfl) ?_
                    refine wx_icmp_ge (tgt := 124) dX9_dropped_112 (by decide) (fun h112 => ?_) (fun h112 => ?_)
                    · rw [zU_same, zi_le (by omega) (by omega)] at h112
                      have hd := zDs_n h28 (fun u => u.elim (fun u => h92 u) (fun u => absurd u.2 (by omega)))
                      refine wx_inc (c := 1) dX9_dropped_124 rfl (by decide) (Nat.le_of_ble_eq_true rfl) rfl ?_
                      refine wx_goto (tgt := 14) dX9_dropped_127 (by decide) ?_
                      rw [nI_1, zl_1, zi_add]
                      have e := ih (i + 1) (some (.int (zi (g i w - s i - L)))) (some (.int (zi (zHo g s L w (g i w - s i - L) 3)))) (by omega)
                      rw [hd] at e
                      exact e
                    · rw [zU_same, zi_le (by omega) (by omega)] at h112
                      have hd := zDs_y h28 (Or.inr ⟨h98, by omega⟩)
                      refine wx_iload dX9_dropped_115 rfl ?_
                      refine wx_istore_n (i := 3) dX9_dropped_117 rfl (Nat.le_of_ble_eq_true rfl) rfl ?_
                      refine wx_aload_n (i := 0) dX9_dropped_118 rfl rfl ?_
                      refine wx_iload dX9_dropped_119 rfl ?_
                      refine wx_putIG (k := 128) dX9_dropped_121 zF_X9_149 zKo_128 rfl (Nat.le_of_ble_eq_true rfl) rfl rfl ?_
                      refine wx_inc (c := 1) dX9_dropped_124 rfl (by decide) (Nat.le_of_ble_eq_true rfl) rfl ?_
                      refine wx_goto (tgt := 14) dX9_dropped_127 (by decide) ?_
                      rw [nI_1, zU_zU, zl_1, zi_add]
                      have e := ih (i + 1) (some (.int (zi (g i w - s i - L)))) (some (.int (zi (zHo g s L w (g i w - s i - L) 3)))) (by omega)
                      rw [hd] at e
                      exact e
theorem s_X9_dropped {d : Nat} {K : List Value → zS → Prop} {mm : zM} {g : Nat → Nat → Int} {s : Nat → Int} {L : Int} {w : Nat} (hO : zOk g s L) (hM : zMR g s L mm) (hw : w < 15) (hK : K [.int (zi ((zDs g s L w 3).1 - (zDs g s L w 3).2.1))] (zG (zU mm 128 27 (zi (zDs g s L w 3).2.2)))) : wm (d + 3) mX9_dropped [.ref 128, .int (nI w)] (zG mm) K := by
  refine wm_of2 (L0 := [some (.ref 128), some (.int (nI w)), none, none, none, none, none]) zCm_X9_dropped (Or.inl rfl) (Nat.le_of_ble_eq_true rfl) rfl ?_
  refine wx_iconst (v := 0) dX9_dropped_0 (by decide) ?_
  refine wx_istore_n (i := 2) dX9_dropped_1 rfl (Nat.le_of_ble_eq_true rfl) rfl ?_
  refine wx_iconst (v := 0) dX9_dropped_2 (by decide) ?_
  refine wx_istore_n (i := 3) dX9_dropped_3 rfl (Nat.le_of_ble_eq_true rfl) rfl ?_
  refine wx_aload_n (i := 0) dX9_dropped_4 rfl rfl ?_
  refine wx_sipush (v := 5000) dX9_dropped_5 (by decide) ?_
  refine wx_putIG (k := 128) dX9_dropped_8 zF_X9_149 zKo_128 rfl (Nat.le_of_ble_eq_true rfl) rfl rfl ?_
  refine wx_iconst (v := 0) dX9_dropped_11 (by decide) ?_
  refine wx_istore dX9_dropped_12 (Nat.le_of_ble_eq_true rfl) rfl ?_
  exact lp_dropped hO hM hw hK 3 0 _ _ (by omega)
