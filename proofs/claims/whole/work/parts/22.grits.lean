/-! the grits of the class: small methods -/
/-- the least of 1000 and so many from s on -/
def zLo (f : Nat → Nat) (s : Nat) : Nat → Nat
  | 0 => 1000
  | c + 1 => if zLo f s c ≤ f (s + c) then zLo f s c else f (s + c)
theorem zLo_le (f : Nat → Nat) (s : Nat) : ∀ c, zLo f s c ≤ 1000
  | 0 => Nat.le_refl _
  | c + 1 => by
    have h := zLo_le f s c
    show (if zLo f s c ≤ f (s + c) then zLo f s c else f (s + c)) ≤ 1000
    by_cases q : zLo f s c ≤ f (s + c)
    · rw [if_pos q]; exact h
    · rw [if_neg q]; omega
theorem zLo_lb {f : Nat → Nat} {s : Nat} : ∀ {c j : Nat}, j < c → zLo f s c ≤ f (s + j)
  | 0, _, h => absurd h (Nat.not_lt_zero _)
  | c + 1, j, h => by
    show (if zLo f s c ≤ f (s + c) then zLo f s c else f (s + c)) ≤ _
    by_cases e : j = c
    · subst e
      by_cases q : zLo f s j ≤ f (s + j)
      · rw [if_pos q]; exact q
      · rw [if_neg q]; exact Nat.le_refl _
    · have := zLo_lb (f := f) (s := s) (show j < c by omega)
      by_cases q : zLo f s c ≤ f (s + c)
      · rw [if_pos q]; exact this
      · rw [if_neg q]; omega
theorem zLo_at (f : Nat → Nat) (s : Nat) : ∀ c, zLo f s c = 1000 ∨ ∃ j, j < c ∧ zLo f s c = f (s + j)
  | 0 => Or.inl rfl
  | c + 1 => by
    show (if zLo f s c ≤ f (s + c) then zLo f s c else f (s + c)) = 1000 ∨ ∃ j, j < c + 1 ∧ (if zLo f s c ≤ f (s + c) then zLo f s c else f (s + c)) = _
    by_cases q : zLo f s c ≤ f (s + c)
    · rw [if_pos q]
      rcases zLo_at f s c with h | ⟨j, h1, h2⟩
      · exact Or.inl h
      · exact Or.inr ⟨j, by omega, h2⟩
    · rw [if_neg q]
      exact Or.inr ⟨c, by omega, rfl⟩
/-- from where, and how many -/
def zLc (low high : Int) : Nat := ((if high + 1 ≤ 2101 then high + 1 else 2101) - (low.toNat : Int)).toNat
def zLw (f : Nat → Nat) (low high : Int) : Nat := zLo f low.toNat (zLc low high)
theorem s_X2_howMany {d : Nat} {K : List Value → zS → Prop} {mm : zM} (hK : K [.int (mm 117 3)] (zG mm)) : wm (d) mX2_howMany [.ref 117] (zG mm) K := by
  refine wm_of2 (L0 := [some (.ref 117)]) zCm_X2_howMany (Or.inl rfl) (Nat.le_of_ble_eq_true rfl) rfl ?_
  refine wx_aload_n (i := 0) dX2_howMany_0 rfl rfl ?_
  refine wx_getIG (k := 117) dX2_howMany_1 zF_X2_23 zKo_117 rfl (Nat.le_of_ble_eq_true rfl) ?_
  refine wx_iret dX2_howMany_4 rfl rfl (Or.inl rfl) ?_
  exact hK
theorem s_X2_tellSlack {d : Nat} {K : List Value → zS → Prop} {mm : zM} {v : Int32} (hK : K [.int (mm 117 4)] (zG (zU mm 117 4 v))) : wm (d) mX2_tellSlack [.ref 117, .int v] (zG mm) K := by
  refine wm_of2 (L0 := [some (.ref 117), some (.int v), none]) zCm_X2_tellSlack (Or.inl rfl) (Nat.le_of_ble_eq_true rfl) rfl ?_
  refine wx_aload_n (i := 0) dX2_tellSlack_0 rfl rfl ?_
  refine wx_getIG (k := 117) dX2_tellSlack_1 zF_X2_27 zKo_117 rfl (Nat.le_of_ble_eq_true rfl) ?_
  refine wx_istore_n (i := 2) dX2_tellSlack_4 rfl (Nat.le_of_ble_eq_true rfl) rfl ?_
  refine wx_aload_n (i := 0) dX2_tellSlack_5 rfl rfl ?_
  refine wx_iload_n (i := 1) dX2_tellSlack_6 rfl rfl ?_
  refine wx_putIG (k := 117) dX2_tellSlack_7 zF_X2_27 zKo_117 rfl (Nat.le_of_ble_eq_true rfl) rfl rfl ?_
  refine wx_iload_n (i := 2) dX2_tellSlack_10 rfl rfl ?_
  refine wx_iret dX2_tellSlack_11 rfl rfl (Or.inl rfl) ?_
  exact hK
theorem s_X2_come {d : Nat} {K : List Value → zS → Prop} {mm : zM} {q : Nat} {a b : Int32} (hq : mm 117 3 = nI q) (h6 : q < 6) (hK : K [.int (nI q)] (zG (zU (zU (zU (zU mm 118 q a) 119 q b) 117 3 (nI (q + 1))) 117 5 0))) : wm (d) mX2_come [.ref 117, .int a, .int b] (zG mm) K := by
  refine wm_of2 (L0 := [some (.ref 117), some (.int a), some (.int b)]) zCm_X2_come (Or.inl rfl) (Nat.le_of_ble_eq_true rfl) rfl ?_
  refine wx_aload_n (i := 0) dX2_come_0 rfl rfl ?_
  refine wx_getIG (k := 117) dX2_come_1 zF_X2_23 zKo_117 rfl (Nat.le_of_ble_eq_true rfl) ?_
  refine wx_bipush (v := 6) dX2_come_4 (by decide) ?_
  refine wx_icmp_lt (tgt := 12) dX2_come_6 (by decide) (fun h6b => ?_) (fun h6b => ?_)
  · skip
    refine wx_aload_n (i := 0) dX2_come_12 rfl rfl ?_
    refine wx_getRG (k := 117) (t := 118) dX2_come_13 zF_X2_9 zKo_117 rfl (Nat.le_of_ble_eq_true rfl) zRf_117_0 ?_
    refine wx_aload_n (i := 0) dX2_come_16 rfl rfl ?_
    refine wx_getIG (k := 117) dX2_come_17 zF_X2_23 zKo_117 rfl (Nat.le_of_ble_eq_true rfl) ?_
    refine wx_iload_n (i := 1) dX2_come_20 rfl rfl ?_
    refine wx_iastG (k := 118) (j := q) dX2_come_21 zK_118 (Nat.le_of_ble_eq_true rfl) ?_ ?_ ?_
    · exact hq
    · exact ⟨by omega, by decide⟩
    refine wx_aload_n (i := 0) dX2_come_22 rfl rfl ?_
    refine wx_getRG (k := 117) (t := 119) dX2_come_23 zF_X2_15 zKo_117 rfl (Nat.le_of_ble_eq_true rfl) zRf_117_1 ?_
    refine wx_aload_n (i := 0) dX2_come_26 rfl rfl ?_
    refine wx_getIG (k := 117) dX2_come_27 zF_X2_23 zKo_117 rfl (Nat.le_of_ble_eq_true rfl) ?_
    refine wx_iload_n (i := 2) dX2_come_30 rfl rfl ?_
    refine wx_iastG (k := 119) (j := q) dX2_come_31 zK_119 (Nat.le_of_ble_eq_true rfl) ?_ ?_ ?_
    · (rw [zU_ne (by decide)]; exact hq)
    · exact ⟨by omega, by decide⟩
    refine wx_aload_n (i := 0) dX2_come_32 rfl rfl ?_
    refine wx_dup dX2_come_33 rfl ?_
    refine wx_getIG (k := 117) dX2_come_34 zF_X2_23 zKo_117 rfl (Nat.le_of_ble_eq_true rfl) ?_
    refine wx_iconst (v := 1) dX2_come_37 (by decide) ?_
    refine wx_iadd dX2_come_38 ?_
    rw [zU_ne (by decide), zU_ne (by decide), hq, nI_1]
    refine wx_putIG (k := 117) dX2_come_39 zF_X2_23 zKo_117 rfl (Nat.le_of_ble_eq_true rfl) rfl rfl ?_
    refine wx_aload_n (i := 0) dX2_come_42 rfl rfl ?_
    refine wx_iconst (v := 0) dX2_come_43 (by decide) ?_
    refine wx_putIG (k := 117) dX2_come_44 zF_X2_30 zKo_117 rfl (Nat.le_of_ble_eq_true rfl) rfl rfl ?_
    refine wx_aload_n (i := 0) dX2_come_47 rfl rfl ?_
    refine wx_getIG (k := 117) dX2_come_48 zF_X2_23 zKo_117 rfl (Nat.le_of_ble_eq_true rfl) ?_
    refine wx_iconst (v := 1) dX2_come_51 (by decide) ?_
    refine wx_isub dX2_come_52 ?_
    refine wx_iret dX2_come_53 rfl rfl (Or.inl rfl) ?_
    rw [zU_off (by decide), zU_same, show nI (q + 1) - 1 = nI q from nI_pred q]
    exact hK
  · exact absurd (show mm 117 3 < nI 6 by rw [hq]; exact nI_lt h6 (by omega)) h6b --end
/-- whether a grit may follow: it takes thrice the pits of the one ahead -/
def zCe (pt : Nat → Int) (u : Nat) (x : Int) : Prop := u = 0 ∨ 3 * pt (u - 1) ≤ x
theorem s_X2_clears {d : Nat} {K : List Value → zS → Prop} {mm : zM} {pt : Nat → Int} {u : Nat} {x : Int} (hu : u ≤ 6) (hp : ∀ k, k < u → mm 119 k = zi (pt k) ∧ 0 ≤ pt k ∧ pt k ≤ 200) (hx : -100000 ≤ x ∧ x ≤ 100000) (hK : ∀ b : Int32, (b = 1 ∧ zCe pt u x) ∨ (b = 0 ∧ ¬ zCe pt u x) → K [.int b] (zG mm)) : wm (d) mX2_clears [.ref 117, .int (zi ((u : Int) - 1)), .int (zi x)] (zG mm) K := by
  refine wm_of2 (L0 := [some (.ref 117), some (.int (zi ((u : Int) - 1))), some (.int (zi x))]) zCm_X2_clears (Or.inl rfl) (Nat.le_of_ble_eq_true rfl) rfl ?_
  refine wx_iload_n (i := 1) dX2_clears_0 rfl rfl ?_
  refine wx_if_lt (tgt := 16) dX2_clears_1 (by decide) (fun h1 => ?_) (fun h1 => ?_)
  · rw [zl_0, zi_lt (by omega) (by omega)] at h1
    have hc : zCe pt u x := Or.inl (by omega)
    refine wx_iconst (v := 1) dX2_clears_16 (by decide) ?_
    refine wx_goto (tgt := 21) dX2_clears_17 (by decide) ?_
    refine wx_iret dX2_clears_21 rfl rfl (Or.inl rfl) ?_
    first | exact hK 1 (Or.inl ⟨rfl, hc⟩) | exact hK 0 (Or.inr ⟨rfl, hc⟩)
  · rw [zl_0, zi_lt (by omega) (by omega)] at h1
    have hpu := hp (u - 1) (by omega)
    refine wx_iload_n (i := 2) dX2_clears_4 rfl rfl ?_
    refine wx_iconst (v := 3) dX2_clears_5 (by decide) ?_
    refine wx_aload_n (i := 0) dX2_clears_6 rfl rfl ?_
    refine wx_getRG (k := 117) (t := 119) dX2_clears_7 zF_X2_15 zKo_117 rfl (Nat.le_of_ble_eq_true rfl) zRf_117_1 ?_
    refine wx_iload_n (i := 1) dX2_clears_10 rfl rfl ?_
    refine wx_ialdG (k := 119) (j := u - 1) dX2_clears_11 zK_119 (Nat.le_of_ble_eq_true rfl) ?_ ?_ ?_
    · (rw [zi_nI]; exact congrArg zi (by omega))
    · exact ⟨by omega, by decide⟩
    refine wx_imul dX2_clears_12 ?_
    refine wx_icmp_lt (tgt := 20) dX2_clears_13 (by decide) (fun h13 => ?_) (fun h13 => ?_)
    · rw [hpu.1, zl_3, zi_mul, zi_lt (by omega) (by omega)] at h13
      have hc : ¬ zCe pt u x := fun w => w.elim (by omega) (by omega)
      refine wx_iconst (v := 0) dX2_clears_20 (by decide) ?_
      refine wx_iret dX2_clears_21 rfl rfl (Or.inl rfl) ?_
      first | exact hK 1 (Or.inl ⟨rfl, hc⟩) | exact hK 0 (Or.inr ⟨rfl, hc⟩)
    · rw [hpu.1, zl_3, zi_mul, zi_lt (by omega) (by omega)] at h13
      have hc : zCe pt u x := Or.inr (by omega)
      refine wx_iconst (v := 1) dX2_clears_16 (by decide) ?_
      refine wx_goto (tgt := 21) dX2_clears_17 (by decide) ?_
      refine wx_iret dX2_clears_21 rfl rfl (Or.inl rfl) ?_
      first | exact hK 1 (Or.inl ⟨rfl, hc⟩) | exact hK 0 (Or.inr ⟨rfl, hc⟩)
theorem lp_within {d : Nat} {K : List Value → zS → Prop} {mm : zM} {f : Nat → Nat} {u : Nat} {low high : Int} (hu : u ≤ 6) (hf : ∀ t, t < 2101 → mm (120 + 1 + u) t = nI (f t) ∧ f t ≤ 1000) (hl : -100000 ≤ low ∧ low ≤ 100000) (hh : -100000 ≤ high ∧ high ≤ 100000) (hK : K [.int (nI (zLw f low high))] (zG mm))  : ∀ (c i : Nat) , i + c = (zLc low high) →  wx (d + 1) mX2_fewestWithin 22 [some (.ref 117), some (.int (zi ((u : Int) - 1))), some (.int (zi low)), some (.int (zi high)), some (.ref (120 + 1 + u)), some (.int (nI (zLo f low.toNat i))), some (.int (nI (low.toNat + i)))] [] (zG mm) K := by
  intro c
  induction c with
  | zero =>
    intro i  hi 
    obtain rfl : i = (zLc low high) := by omega
    have hz : zLc low high = ((if high + 1 ≤ 2101 then high + 1 else 2101) - (low.toNat : Int)).toNat := rfl
    have hz2 : (high + 1 ≤ 2101 ∧ zLc low high = (high + 1 - (low.toNat : Int)).toNat) ∨ (2101 < high + 1 ∧ zLc low high = (2101 - (low.toNat : Int)).toNat) := by
      by_cases q : high + 1 ≤ 2101
      · rw [if_pos q] at hz; exact Or.inl ⟨q, hz⟩
      · rw [if_neg q] at hz; exact Or.inr ⟨by omega, hz⟩
    refine wx_iload dX2_fewestWithin_22 rfl ?_
    refine wx_iload_n (i := 3) dX2_fewestWithin_24 rfl rfl ?_
    refine wx_icmp_gt (tgt := 54) dX2_fewestWithin_25 (by decide) (fun h25 => ?_) (fun h25 => ?_)
    · skip
      refine wx_iload dX2_fewestWithin_54 rfl ?_
      refine wx_iret dX2_fewestWithin_56 rfl rfl (Or.inl rfl) ?_
      exact hK
    · rw [zi_nI, zi_lt (by omega) (by omega)] at h25
      refine wx_iload dX2_fewestWithin_28 rfl ?_
      refine wx_sipush (v := 2101) dX2_fewestWithin_30 (by decide) ?_
      refine wx_icmp_ge (tgt := 54) dX2_fewestWithin_33 (by decide) (fun h33 => ?_) (fun h33 => ?_)
      · skip
        refine wx_iload dX2_fewestWithin_54 rfl ?_
        refine wx_iret dX2_fewestWithin_56 rfl rfl (Or.inl rfl) ?_
        exact hK
      · exact absurd (show (2101 : Int32) ≤ nI (low.toNat + zLc low high) by rw [zl_2101, zi_nI, zi_le (by omega) (by omega)]; omega) h33 --end
  | succ c ih =>
    intro i  hi 
    have hz : zLc low high = ((if high + 1 ≤ 2101 then high + 1 else 2101) - (low.toNat : Int)).toNat := rfl
    have hz2 : (high + 1 ≤ 2101 ∧ zLc low high = (high + 1 - (low.toNat : Int)).toNat) ∨ (2101 < high + 1 ∧ zLc low high = (2101 - (low.toNat : Int)).toNat) := by
      by_cases q : high + 1 ≤ 2101
      · rw [if_pos q] at hz; exact Or.inl ⟨q, hz⟩
      · rw [if_neg q] at hz; exact Or.inr ⟨by omega, hz⟩
    refine wx_iload dX2_fewestWithin_22 rfl ?_
    refine wx_iload_n (i := 3) dX2_fewestWithin_24 rfl rfl ?_
    refine wx_icmp_gt (tgt := 54) dX2_fewestWithin_25 (by decide) (fun h25 => ?_) (fun h25 => ?_)
    · rw [zi_nI, zi_lt (by omega) (by omega)] at h25
      exact absurd h25 (by omega) --end
    · skip
      refine wx_iload dX2_fewestWithin_28 rfl ?_
      refine wx_sipush (v := 2101) dX2_fewestWithin_30 (by decide) ?_
      refine wx_icmp_ge (tgt := 54) dX2_fewestWithin_33 (by decide) (fun h33 => ?_) (fun h33 => ?_)
      · exact absurd h33 (by rw [zl_2101, zi_nI, zi_le (by omega) (by omega)]; omega) --end
      · skip
        refine wx_iload dX2_fewestWithin_36 rfl ?_
        refine wx_aload dX2_fewestWithin_38 rfl ?_
        refine wx_iload dX2_fewestWithin_40 rfl ?_
        refine wx_ialdG dX2_fewestWithin_42 (zKin_120 _ (by omega)) (zKlt_120 _ (by omega)) rfl ?_ ?_
        · exact ⟨by omega, by decide⟩
        refine wx_S2 dX2_fewestWithin_43 zPS_J9_min_7cf53 zLk_X2_59 (Nat.le_of_ble_eq_true rfl) (Or.inr rfl) ?_
        refine s_J9_min_7cf53 _ _ ?_
        refine wx_r1 ?_
        refine wx_istore dX2_fewestWithin_46 (Nat.le_of_ble_eq_true rfl) rfl ?_
        refine wx_inc (c := 1) dX2_fewestWithin_48 rfl (by decide) (Nat.le_of_ble_eq_true rfl) rfl ?_
        refine wx_goto (tgt := 22) dX2_fewestWithin_51 (by decide) ?_
        rw [nI_1, (hf (low.toNat + i) (by omega)).1]
        have e : (if nI (zLo f low.toNat i) ≤ nI (f (low.toNat + i)) then nI (zLo f low.toNat i) else nI (f (low.toNat + i))) = nI (zLo f low.toNat (i + 1)) := by
          have h1 := zLo_le f low.toNat i
          have h2 := (hf (low.toNat + i) (by omega)).2
          show _ = nI (if zLo f low.toNat i ≤ f (low.toNat + i) then zLo f low.toNat i else f (low.toNat + i))
          by_cases q : zLo f low.toNat i ≤ f (low.toNat + i)
          · rw [if_pos q, if_pos (nI_le q (by omega))]
          · rw [if_neg q, if_neg (nI_ge (by omega) (by omega))]
        rw [e]
        exact ih (i + 1) (by omega)
theorem s_X2_fewestWithin {d : Nat} {K : List Value → zS → Prop} {mm : zM} {f : Nat → Nat} {u : Nat} {low high : Int} (hu : u ≤ 6) (hf : ∀ t, t < 2101 → mm (120 + 1 + u) t = nI (f t) ∧ f t ≤ 1000) (hl : -100000 ≤ low ∧ low ≤ 100000) (hh : -100000 ≤ high ∧ high ≤ 100000) (hK : K [.int (nI (zLw f low high))] (zG mm))  : wm (d + 1) mX2_fewestWithin [.ref 117, .int (zi ((u : Int) - 1)), .int (zi low), .int (zi high)] (zG mm) K := by
  refine wm_of2 (L0 := [some (.ref 117), some (.int (zi ((u : Int) - 1))), some (.int (zi low)), some (.int (zi high)), none, none, none]) zCm_X2_fewestWithin (Or.inl rfl) (Nat.le_of_ble_eq_true rfl) rfl ?_
  refine wx_aload_n (i := 0) dX2_fewestWithin_0 rfl rfl ?_
  refine wx_getRG (k := 117) (t := 120) dX2_fewestWithin_1 zF_X2_20 zKo_117 rfl (Nat.le_of_ble_eq_true rfl) zRf_117_2 ?_
  refine wx_iload_n (i := 1) dX2_fewestWithin_4 rfl rfl ?_
  refine wx_iconst (v := 1) dX2_fewestWithin_5 (by decide) ?_
  refine wx_iadd dX2_fewestWithin_6 ?_
  refine wx_aaldG (k := 120) (j := u) dX2_fewestWithin_7 zK_120 (Nat.le_of_ble_eq_true rfl) ?_ ?_ ?_
  · (rw [zl_1, zi_add, zi_nI]; exact congrArg zi (by omega))
  · exact ⟨by omega, by decide⟩
  refine wx_astore dX2_fewestWithin_8 (Nat.le_of_ble_eq_true rfl) rfl ?_
  refine wx_sipush (v := 1000) dX2_fewestWithin_10 (by decide) ?_
  refine wx_istore dX2_fewestWithin_13 (Nat.le_of_ble_eq_true rfl) rfl ?_
  refine wx_iload_n (i := 2) dX2_fewestWithin_15 rfl rfl ?_
  refine wx_iconst (v := 0) dX2_fewestWithin_16 (by decide) ?_
  refine wx_S2 dX2_fewestWithin_17 zPS_J9_max_7cf53 zLk_X2_53 (Nat.le_of_ble_eq_true rfl) (Or.inr rfl) ?_
  refine s_J9_max_7cf53 _ _ ?_
  refine wx_r1 ?_
  refine wx_istore dX2_fewestWithin_20 (Nat.le_of_ble_eq_true rfl) rfl ?_
  have e : (if (0 : Int32) ≤ zi low then zi low else 0) = nI (low.toNat + 0) := by
    rw [zi_nI]
    by_cases q : 0 ≤ low
    · rw [if_pos (by rw [zl_0, zi_le (by omega) (by omega)]; exact q)]
      exact congrArg zi (by omega)
    · rw [if_neg (by rw [zl_0, zi_le (by omega) (by omega)]; exact q), zl_0]
      exact congrArg zi (by omega)
  rw [e]
  exact lp_within hu hf hl hh hK (zLc low high) 0 (by omega)
