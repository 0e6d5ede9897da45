/-! the strokes of the reference -/
theorem s_X9_pullOf {d : Nat} {K : List Value → zS → Prop} {mm : zM} {t e : Nat} (ht : t < 3) (he : e < 5) (hK : K [.int (mm 135 (5 * t + e))] (zG mm)) : wm (d) mX9_pullOf [.ref 128, .int (nI t), .int (zi ((e : Int) - 2))] (zG mm) K := by
  refine wm_of2 (L0 := [some (.ref 128), some (.int (nI t)), some (.int (zi ((e : Int) - 2)))]) zCm_X9_pullOf (Or.inl rfl) (Nat.le_of_ble_eq_true rfl) rfl ?_
  refine wx_aload_n (i := 0) dX9_pullOf_0 rfl rfl ?_
  refine wx_getRG (k := 128) (t := 135) dX9_pullOf_1 zF_X9_44 zKo_128 rfl (Nat.le_of_ble_eq_true rfl) zRf_128_12 ?_
  refine wx_iconst (v := 5) dX9_pullOf_4 (by decide) ?_
  refine wx_iload_n (i := 1) dX9_pullOf_5 rfl rfl ?_
  refine wx_imul dX9_pullOf_6 ?_
  refine wx_iload_n (i := 2) dX9_pullOf_7 rfl rfl ?_
  refine wx_iadd dX9_pullOf_8 ?_
  refine wx_iconst (v := 2) dX9_pullOf_9 (by decide) ?_
  refine wx_iadd dX9_pullOf_10 ?_
  refine wx_ialdG (k := 135) (j := 5 * t + e) dX9_pullOf_11 zK_135 (Nat.le_of_ble_eq_true rfl) ?_ ?_ ?_
  · (simp only [zl_5, zl_2, zi_nI, zi_mul, zi_add, zi_sub] <;> first | done | exact congrArg zi (by omega))
  · exact ⟨by omega, by decide⟩
  refine wx_iret dX9_pullOf_12 rfl rfl (Or.inl rfl) ?_
  exact hK
/-- what a tool of the reference pulls -/
def zPm (mm : zM) (t : Nat) : Nat → Int32 := fun e => mm 135 (5 * t + e)
noncomputable def zStM (mm : zM) (n z : Nat) (m : Int32) (p : Nat → Int32) (k e : Nat) : zM := va_up (va_up mm 139 (fun j => if 5 * k ≤ j ∧ j < 5 * k + e then zTk n z m p (j - 5 * k) else mm 139 j)) 129 (zHt n z m p (mm 129) e)
theorem zStM_0 (mm : zM) (n z : Nat) (m : Int32) (p : Nat → Int32) (k : Nat) : zStM mm n z m p k 0 = mm := by
  funext a
  unfold zStM
  rw [zHt_0]
  by_cases h : a = 129
  · subst h; simp [va_up]
  · by_cases g : a = 139
    · subst g
      simp only [va_up, h, if_false, if_true]
      funext j
      rw [if_neg (by omega)]
    · simp [va_up, h, g]
theorem zStM_off {mm : zM} {n z k e a : Nat} {m : Int32} {p : Nat → Int32} (h1 : a ≠ 139) (h2 : a ≠ 129) : zStM mm n z m p k e a = mm a := by simp [zStM, va_up, h1, h2]
theorem zStM_h {mm : zM} {n z k e : Nat} {m : Int32} {p : Nat → Int32} : zStM mm n z m p k e 129 = zHt n z m p (mm 129) e := by simp [zStM, va_up]
theorem zStM_t {mm : zM} {n z k e : Nat} {m : Int32} {p : Nat → Int32} : zStM mm n z m p k e 139 = fun j => if 5 * k ≤ j ∧ j < 5 * k + e then zTk n z m p (j - 5 * k) else mm 139 j := by simp [zStM, va_up]
theorem zStM_row {mm : zM} {n z k e : Nat} {m : Int32} {p : Nat → Int32} {x : Int32} (hx : x = zTk n z m p e) : upd (fun j => if 5 * k ≤ j ∧ j < 5 * k + e then zTk n z m p (j - 5 * k) else mm 139 j) (5 * k + e) x = fun j => if 5 * k ≤ j ∧ j < 5 * k + (e + 1) then zTk n z m p (j - 5 * k) else mm 139 j := by
  funext j
  unfold upd
  by_cases q : j = 5 * k + e
  · subst q
    rw [if_pos rfl, if_pos (by omega), hx]
    congr 1
    omega
  · rw [if_neg q]
    show (if 5 * k ≤ j ∧ j < 5 * k + e then zTk n z m p (j - 5 * k) else mm 139 j) = _
    by_cases w : 5 * k ≤ j ∧ j < 5 * k + e
    · rw [if_pos w, if_pos (by omega)]
    · rw [if_neg w, if_neg (by omega)]
theorem zStM_T {mm : zM} {n z k e : Nat} {m : Int32} {p : Nat → Int32} (hth : zTh n z e) : zU (zU (zStM mm n z m p k e) 139 (5 * k + e) (m * p e)) 129 (z + e - 2) (zU (zStM mm n z m p k e) 139 (5 * k + e) (m * p e) 129 (z + e - 2) - m * p e) = zStM mm n z m p k (e + 1) := by
  have e0 : zU (zStM mm n z m p k e) 139 (5 * k + e) (m * p e) 129 = zHt n z m p (mm 129) e := (zU_ne (by decide)).trans zStM_h
  funext a
  by_cases h : a = 129
  · subst h
    rw [zU_at, e0, zHt_succ hth, zStM_h]
  · rw [zU_ne h]
    by_cases g : a = 139
    · subst g
      rw [zU_at, zStM_t, zStM_t]
      exact zStM_row (by unfold zTk; rw [if_pos (show 2 ≤ z + e ∧ z + e < n + 2 from hth)])
    · rw [zU_ne g, zStM_off g h, zStM_off g h]
theorem zStM_F {mm : zM} {n z k e : Nat} {m : Int32} {p : Nat → Int32} (hth : ¬ zTh n z e) : zU (zStM mm n z m p k e) 139 (5 * k + e) 0 = zStM mm n z m p k (e + 1) := by
  funext a
  by_cases h : a = 129
  · subst h
    rw [zU_ne (by decide), zStM_h, zStM_h]
    exact zHt_same hth
  · by_cases g : a = 139
    · subst g
      rw [zU_at, zStM_t, zStM_t]
      exact zStM_row (by unfold zTk; rw [if_neg (show ¬ (2 ≤ z + e ∧ z + e < n + 2) from hth)])
    · rw [zU_ne g, zStM_off g h, zStM_off g h]
noncomputable def zDoM (mm : zM) (n z t : Nat) (m : Int32) (k : Nat) : zM := zU (zU (zU (zU (zStM mm n z m (zPm mm t) k 5) 136 k (nI t)) 137 k (nI z)) 138 k m) 128 14 (nI (k + 1))
theorem lp_doM {d : Nat} {K : List Value → zS → Prop} {mm : zM} {n z t : Nat} {m : Int32} (hn : 4 ≤ n ∧ n ≤ 16) (hz : z < n) (ht : t < 3) (hzn : mm 128 0 = nI n) {k : Nat} (hk : k < 60) (hks : mm 128 14 = nI k) (hx : wx (d + 2) mX9_lays 85 [some (.ref 128), some (.int (nI t)), some (.int (nI z)), some (.int m), none, none] [] (zG (zStM mm n z m (zPm mm t) k 5)) K) : ∀ c i : Nat, i + c = 5 → wx (d + 2) mX9_lays 4 [some (.ref 128), some (.int (nI t)), some (.int (nI z)), some (.int m), some (.int (zi ((i : Int) - 2))), none] [] (zG (zStM mm n z m (zPm mm t) k i)) K := by
  intro c
  induction c with
  | zero =>
    intro i hi
    have hin : i = 5 := by omega
    subst hin
    refine wx_iload dX9_lays_4 rfl ?_
    refine wx_iconst (v := 2) dX9_lays_6 (by decide) ?_
    refine wx_icmp_gt (tgt := 85) dX9_lays_7 (by decide) (fun h7 => ?_) (fun h7 => ?_)
    · skip
      refine wx_weak 4 ?_
      exact hx
    · exact absurd (by rw [zl_2]; exact (zi_lt (by omega) (by omega)).mpr (by omega)) h7 --end
  | succ c ih =>
    intro i hi
    have he : i < 5 := by omega
    have ep : (zStM mm n z m (zPm mm t) k i) 135 (5 * t + i) = zPm mm t i := congrFun (zStM_off (by decide) (by decide)) _
    have e17 : (zStM mm n z m (zPm mm t) k i) 128 = mm 128 := zStM_off (by decide) (by decide)
    have hzn2 : (zStM mm n z m (zPm mm t) k i) 128 0 = nI n := by rw [e17]; exact hzn
    have hks2 : (zStM mm n z m (zPm mm t) k i) 128 14 = nI k := by rw [e17]; exact hks
    refine wx_iload dX9_lays_4 rfl ?_
    refine wx_iconst (v := 2) dX9_lays_6 (by decide) ?_
    refine wx_icmp_gt (tgt := 85) dX9_lays_7 (by decide) (fun h7 => ?_) (fun h7 => ?_)
    · exact absurd h7 (by rw [zl_2, zi_lt (by omega) (by omega)]; omega) --end
    · skip
      refine wx_aload_n (i := 0) dX9_lays_10 rfl rfl ?_
      refine wx_iload_n (i := 2) dX9_lays_11 rfl rfl ?_
      refine wx_iload dX9_lays_12 rfl ?_
      refine wx_iadd dX9_lays_14 ?_
      refine wx_V1 dX9_lays_15 zPV_X9_isZone zLk_X9_130 rfl (Nat.le_of_ble_eq_true rfl) (Nat.le_of_ble_eq_true rfl) (Or.inr rfl) ?_
      refine s_X9_isZone _ ?_
      refine wx_r1 ?_
      refine wx_eqb (tgt := 33) dX9_lays_18 (by decide) (fun h18 => ?_) (fun h18 => ?_)
      · rw [zTh_i hn.2 hz he _ hzn2] at h18
        refine wx_iconst (v := 0) dX9_lays_33 (by decide) ?_
        refine wx_istore dX9_lays_34 (Nat.le_of_ble_eq_true rfl) rfl ?_
        refine wx_aload_n (i := 0) dX9_lays_36 rfl rfl ?_
        refine wx_getRG (k := 128) (t := 139) dX9_lays_37 zF_X9_59 zKo_128 rfl (Nat.le_of_ble_eq_true rfl) zRf_128_18 ?_
        refine wx_iconst (v := 5) dX9_lays_40 (by decide) ?_
        refine wx_aload_n (i := 0) dX9_lays_41 rfl rfl ?_
        refine wx_getIG (k := 128) dX9_lays_42 zF_X9_113 zKo_128 rfl (Nat.le_of_ble_eq_true rfl) ?_
        refine wx_imul dX9_lays_45 ?_
        refine wx_iload dX9_lays_46 rfl ?_
        refine wx_iadd dX9_lays_48 ?_
        refine wx_iconst (v := 2) dX9_lays_49 (by decide) ?_
        refine wx_iadd dX9_lays_50 ?_
        refine wx_iload dX9_lays_51 rfl ?_
        refine wx_iastG (k := 139) (j := 5 * k + i) dX9_lays_53 zK_139 (Nat.le_of_ble_eq_true rfl) ?_ ?_ ?_
        · rw [hks2]
          (simp only [zl_5, zl_2, zi_nI, zi_mul, zi_add, zi_sub] <;> first | done | exact congrArg zi (by omega))
        · exact ⟨by omega, by decide⟩
        refine wx_aload_n (i := 0) dX9_lays_54 rfl rfl ?_
        refine wx_iload_n (i := 2) dX9_lays_55 rfl rfl ?_
        refine wx_iload dX9_lays_56 rfl ?_
        refine wx_iadd dX9_lays_58 ?_
        refine wx_V1 dX9_lays_59 zPV_X9_isZone zLk_X9_130 rfl (Nat.le_of_ble_eq_true rfl) (Nat.le_of_ble_eq_true rfl) (Or.inr rfl) ?_
        refine s_X9_isZone _ ?_
        refine wx_r1 ?_
        refine wx_eqb (tgt := 79) dX9_lays_62 (by decide) (fun h62 => ?_) (fun h62 => ?_)
        · rw [show zU (zStM mm n z m (zPm mm t) k i) 139 (5 * k + i) _ 128 0 = nI n from (zU_off (by omega)).trans hzn2, zTh_i hn.2 hz he _ rfl] at h62
          refine wx_inc (c := 1) dX9_lays_79 rfl (by decide) (Nat.le_of_ble_eq_true rfl) rfl ?_
          refine wx_goto (tgt := 4) dX9_lays_82 (by decide) ?_
          refine wx_weak 5 ?_
          rw [zd_succ]
          first
            | exact absurd hth h62
            | exact absurd h62 h18
            | (rw [zStM_T hth]
               exact ih (i + 1) (by omega))
            | (rw [zStM_F h18]
               exact ih (i + 1) (by omega))
        · rw [show zU (zStM mm n z m (zPm mm t) k i) 139 (5 * k + i) _ 128 0 = nI n from (zU_off (by omega)).trans hzn2, zTh_i hn.2 hz he _ rfl] at h62
          have hz62 : 2 ≤ z + i ∧ z + i < n + 2 := h62
          refine wx_aload_n (i := 0) dX9_lays_65 rfl rfl ?_
          refine wx_getRG (k := 128) (t := 129) dX9_lays_66 zF_X9_13 zKo_128 rfl (Nat.le_of_ble_eq_true rfl) zRf_128_1 ?_
          refine wx_iload_n (i := 2) dX9_lays_69 rfl rfl ?_
          refine wx_iload dX9_lays_70 rfl ?_
          refine wx_iadd dX9_lays_72 ?_
          refine wx_dup2 dX9_lays_73 rfl rfl ?_
          refine wx_ialdG (k := 129) (j := z + i - 2) dX9_lays_74 zK_129 (Nat.le_of_ble_eq_true rfl) ?_ ?_ ?_
          · (simp only [zi_nI, zi_add] <;> first | done | exact congrArg zi (by omega))
          · exact ⟨by omega, by decide⟩
          refine wx_iload dX9_lays_75 rfl ?_
          refine wx_isub dX9_lays_77 ?_
          refine wx_iastG (k := 129) (j := z + i - 2) dX9_lays_78 zK_129 (Nat.le_of_ble_eq_true rfl) ?_ ?_ ?_
          · (simp only [zi_nI, zi_add] <;> first | done | exact congrArg zi (by omega))
          · exact ⟨by omega, by decide⟩
          refine wx_inc (c := 1) dX9_lays_79 rfl (by decide) (Nat.le_of_ble_eq_true rfl) rfl ?_
          refine wx_goto (tgt := 4) dX9_lays_82 (by decide) ?_
          refine wx_weak 5 ?_
          rw [zd_succ]
          first
            | exact absurd hth h62
            | exact absurd h62 h18
            | (rw [zStM_T hth]
               exact ih (i + 1) (by omega))
            | (rw [zStM_F h18]
               exact ih (i + 1) (by omega))
      · rw [zTh_i hn.2 hz he _ hzn2] at h18
        have hth : zTh n z i := h18
        refine wx_iload_n (i := 3) dX9_lays_21 rfl rfl ?_
        refine wx_aload_n (i := 0) dX9_lays_22 rfl rfl ?_
        refine wx_iload_n (i := 1) dX9_lays_23 rfl rfl ?_
        refine wx_iload dX9_lays_24 rfl ?_
        refine wx_V2 dX9_lays_26 zPV_X9_pullOf zLk_X9_170 rfl (Nat.le_of_ble_eq_true rfl) (Nat.le_of_ble_eq_true rfl) (Or.inr rfl) ?_
        refine s_X9_pullOf ht he ?_
        rw [ep]
        refine wx_r1 ?_
        refine wx_imul dX9_lays_29 ?_
        refine wx_goto (tgt := 34) dX9_lays_30 (by decide) ?_
        refine wx_istore dX9_lays_34 (Nat.le_of_ble_eq_true rfl) rfl ?_
        refine wx_aload_n (i := 0) dX9_lays_36 rfl rfl ?_
        refine wx_getRG (k := 128) (t := 139) dX9_lays_37 zF_X9_59 zKo_128 rfl (Nat.le_of_ble_eq_true rfl) zRf_128_18 ?_
        refine wx_iconst (v := 5) dX9_lays_40 (by decide) ?_
        refine wx_aload_n (i := 0) dX9_lays_41 rfl rfl ?_
        refine wx_getIG (k := 128) dX9_lays_42 zF_X9_113 zKo_128 rfl (Nat.le_of_ble_eq_true rfl) ?_
        refine wx_imul dX9_lays_45 ?_
        refine wx_iload dX9_lays_46 rfl ?_
        refine wx_iadd dX9_lays_48 ?_
        refine wx_iconst (v := 2) dX9_lays_49 (by decide) ?_
        refine wx_iadd dX9_lays_50 ?_
        refine wx_iload dX9_lays_51 rfl ?_
        refine wx_iastG (k := 139) (j := 5 * k + i) dX9_lays_53 zK_139 (Nat.le_of_ble_eq_true rfl) ?_ ?_ ?_
        · rw [hks2]
          (simp only [zl_5, zl_2, zi_nI, zi_mul, zi_add, zi_sub] <;> first | done | exact congrArg zi (by omega))
        · exact ⟨by omega, by decide⟩
        refine wx_aload_n (i := 0) dX9_lays_54 rfl rfl ?_
        refine wx_iload_n (i := 2) dX9_lays_55 rfl rfl ?_
        refine wx_iload dX9_lays_56 rfl ?_
        refine wx_iadd dX9_lays_58 ?_
        refine wx_V1 dX9_lays_59 zPV_X9_isZone zLk_X9_130 rfl (Nat.le_of_ble_eq_true rfl) (Nat.le_of_ble_eq_true rfl) (Or.inr rfl) ?_
        refine s_X9_isZone _ ?_
        refine wx_r1 ?_
        refine wx_eqb (tgt := 79) dX9_lays_62 (by decide) (fun h62 => ?_) (fun h62 => ?_)
        · rw [show zU (zStM mm n z m (zPm mm t) k i) 139 (5 * k + i) _ 128 0 = nI n from (zU_off (by omega)).trans hzn2, zTh_i hn.2 hz he _ rfl] at h62
          refine wx_inc (c := 1) dX9_lays_79 rfl (by decide) (Nat.le_of_ble_eq_true rfl) rfl ?_
          refine wx_goto (tgt := 4) dX9_lays_82 (by decide) ?_
          refine wx_weak 5 ?_
          rw [zd_succ]
          first
            | exact absurd hth h62
            | exact absurd h62 h18
            | (rw [zStM_T hth]
               exact ih (i + 1) (by omega))
            | (rw [zStM_F h18]
               exact ih (i + 1) (by omega))
        · rw [show zU (zStM mm n z m (zPm mm t) k i) 139 (5 * k + i) _ 128 0 = nI n from (zU_off (by omega)).trans hzn2, zTh_i hn.2 hz he _ rfl] at h62
          have hz62 : 2 ≤ z + i ∧ z + i < n + 2 := h62
          refine wx_aload_n (i := 0) dX9_lays_65 rfl rfl ?_
          refine wx_getRG (k := 128) (t := 129) dX9_lays_66 zF_X9_13 zKo_128 rfl (Nat.le_of_ble_eq_true rfl) zRf_128_1 ?_
          refine wx_iload_n (i := 2) dX9_lays_69 rfl rfl ?_
          refine wx_iload dX9_lays_70 rfl ?_
          refine wx_iadd dX9_lays_72 ?_
          refine wx_dup2 dX9_lays_73 rfl rfl ?_
          refine wx_ialdG (k := 129) (j := z + i - 2) dX9_lays_74 zK_129 (Nat.le_of_ble_eq_true rfl) ?_ ?_ ?_
          · (simp only [zi_nI, zi_add] <;> first | done | exact congrArg zi (by omega))
          · exact ⟨by omega, by decide⟩
          refine wx_iload dX9_lays_75 rfl ?_
          refine wx_isub dX9_lays_77 ?_
          refine wx_iastG (k := 129) (j := z + i - 2) dX9_lays_78 zK_129 (Nat.le_of_ble_eq_true rfl) ?_ ?_ ?_
          · (simp only [zi_nI, zi_add] <;> first | done | exact congrArg zi (by omega))
          · exact ⟨by omega, by decide⟩
          refine wx_inc (c := 1) dX9_lays_79 rfl (by decide) (Nat.le_of_ble_eq_true rfl) rfl ?_
          refine wx_goto (tgt := 4) dX9_lays_82 (by decide) ?_
          refine wx_weak 5 ?_
          rw [zd_succ]
          first
            | exact absurd hth h62
            | exact absurd h62 h18
            | (rw [zStM_T hth]
               exact ih (i + 1) (by omega))
            | (rw [zStM_F h18]
               exact ih (i + 1) (by omega))
theorem lp_doM2 {d : Nat} {K : List Value → zS → Prop} {mm : zM} {n z t : Nat} {m : Int32} (hn : 4 ≤ n ∧ n ≤ 16) (hz : z < n) (ht : t < 3) (hzn : mm 128 0 = nI n) {k : Nat} (hk : k < 60) (hks : mm 128 14 = nI k) (hK : K [] (zG (zDoM mm n z t m k))) : wx (d + 2) mX9_lays 85 [some (.ref 128), some (.int (nI t)), some (.int (nI z)), some (.int m), none, none] [] (zG (zStM mm n z m (zPm mm t) k 5)) K := by
  have f1 : zStM mm n z m (zPm mm t) k 5 128 14 = nI k := (congrFun (zStM_off (by decide) (by decide)) 14).trans hks
  refine wx_aload_n (i := 0) dX9_lays_85 rfl rfl ?_
  refine wx_getRG (k := 128) (t := 136) dX9_lays_86 zF_X9_50 zKo_128 rfl (Nat.le_of_ble_eq_true rfl) zRf_128_15 ?_
  refine wx_aload_n (i := 0) dX9_lays_89 rfl rfl ?_
  refine wx_getIG (k := 128) dX9_lays_90 zF_X9_113 zKo_128 rfl (Nat.le_of_ble_eq_true rfl) ?_
  refine wx_iload_n (i := 1) dX9_lays_93 rfl rfl ?_
  refine wx_iastG (k := 136) (j := k) dX9_lays_94 zK_136 (Nat.le_of_ble_eq_true rfl) ?_ ?_ ?_
  · exact f1
  · exact ⟨hk, by decide⟩
  refine wx_aload_n (i := 0) dX9_lays_95 rfl rfl ?_
  refine wx_getRG (k := 128) (t := 137) dX9_lays_96 zF_X9_53 zKo_128 rfl (Nat.le_of_ble_eq_true rfl) zRf_128_16 ?_
  refine wx_aload_n (i := 0) dX9_lays_99 rfl rfl ?_
  refine wx_getIG (k := 128) dX9_lays_100 zF_X9_113 zKo_128 rfl (Nat.le_of_ble_eq_true rfl) ?_
  refine wx_iload_n (i := 2) dX9_lays_103 rfl rfl ?_
  refine wx_iastG (k := 137) (j := k) dX9_lays_104 zK_137 (Nat.le_of_ble_eq_true rfl) ?_ ?_ ?_
  · (simp only [zU, va_up, Nat.reduceEqDiff, if_false]; exact f1)
  · exact ⟨hk, by decide⟩
  refine wx_aload_n (i := 0) dX9_lays_105 rfl rfl ?_
  refine wx_getRG (k := 128) (t := 138) dX9_lays_106 zF_X9_56 zKo_128 rfl (Nat.le_of_ble_eq_true rfl) zRf_128_17 ?_
  refine wx_aload_n (i := 0) dX9_lays_109 rfl rfl ?_
  refine wx_getIG (k := 128) dX9_lays_110 zF_X9_113 zKo_128 rfl (Nat.le_of_ble_eq_true rfl) ?_
  refine wx_iload_n (i := 3) dX9_lays_113 rfl rfl ?_
  refine wx_iastG (k := 138) (j := k) dX9_lays_114 zK_138 (Nat.le_of_ble_eq_true rfl) ?_ ?_ ?_
  · (simp only [zU, va_up, Nat.reduceEqDiff, if_false]; exact f1)
  · exact ⟨hk, by decide⟩
  refine wx_aload_n (i := 0) dX9_lays_115 rfl rfl ?_
  refine wx_dup dX9_lays_116 rfl ?_
  refine wx_getIG (k := 128) dX9_lays_117 zF_X9_113 zKo_128 rfl (Nat.le_of_ble_eq_true rfl) ?_
  refine wx_iconst (v := 1) dX9_lays_120 (by decide) ?_
  refine wx_iadd dX9_lays_121 ?_
  refine wx_putIG (k := 128) dX9_lays_122 zF_X9_113 zKo_128 rfl (Nat.le_of_ble_eq_true rfl) rfl rfl ?_
  refine wx_vret dX9_lays_125 rfl (Or.inl rfl) ?_
  refine zkm hK ?_
  unfold zDoM
  congr 1
  rw [← nI_1]
  congr 1
  exact f1.symm
theorem s_X9_lays {d : Nat} {K : List Value → zS → Prop} {mm : zM} {n z t : Nat} {m : Int32} (hn : 4 ≤ n ∧ n ≤ 16) (hz : z < n) (ht : t < 3) (hzn : mm 128 0 = nI n) {k : Nat} (hk : k < 60) (hks : mm 128 14 = nI k) (hK : K [] (zG (zDoM mm n z t m k))) : wm (d + 2) mX9_lays [.ref 128, .int (nI t), .int (nI z), .int m] (zG mm) K := by
  refine wm_of2 (L0 := [some (.ref 128), some (.int (nI t)), some (.int (nI z)), some (.int m), none, none]) zCm_X9_lays (Or.inl rfl) (Nat.le_of_ble_eq_true rfl) rfl ?_
  refine wx_bipush (v := (-2)) dX9_lays_0 (by decide) ?_
  refine wx_istore dX9_lays_2 (Nat.le_of_ble_eq_true rfl) rfl ?_
  have h := lp_doM (d := d) hn hz ht hzn hk hks (lp_doM2 hn hz ht hzn hk hks hK) 5 0 (by omega)
  rw [zStM_0] at h
  exact h
theorem lp_sinkM {d : Nat} {K : List Value → zS → Prop} {mm : zM} {n z t : Nat} {m : Int32} (hn : 4 ≤ n ∧ n ≤ 16) (hz : z < n) (ht : t < 3) (hzn : mm 128 0 = nI n) (h1 : (∃ e, e < 5 ∧ zSk mm n z m (zPm mm t) (mm 129) e) → K [.int (-1000002)] (zG mm)) (h0 : ¬ (∃ e, e < 5 ∧ zSk mm n z m (zPm mm t) (mm 129) e) → wx (d + 3) mX9_stroke 84 [some (.ref 128), some (.int (nI t)), some (.int (nI z)), some (.int m), none] [] (zG mm) K) : ∀ c i : Nat, i + c = 5 → (∀ e, e < i → ¬ zSk mm n z m (zPm mm t) (mm 129) e) → wx (d + 3) mX9_stroke 34 [some (.ref 128), some (.int (nI t)), some (.int (nI z)), some (.int m), some (.int (zi ((i : Int) - 2)))] [] (zG mm) K := by
  intro c
  induction c with
  | zero =>
    intro i hi hno
    refine wx_iload dX9_stroke_34 rfl ?_
    refine wx_iconst (v := 2) dX9_stroke_36 (by decide) ?_
    refine wx_icmp_gt (tgt := 84) dX9_stroke_37 (by decide) (fun h37 => ?_) (fun h37 => ?_)
    · skip
      refine wx_weak 4 ?_
      exact h0 (fun ⟨e, he, h⟩ => hno e (by omega) h)
    · exact absurd (by rw [zl_2]; exact (zi_lt (by omega) (by omega)).mpr (by omega)) h37 --end
  | succ c ih =>
    intro i hi hno
    have he : i < 5 := by omega
    refine wx_iload dX9_stroke_34 rfl ?_
    refine wx_iconst (v := 2) dX9_stroke_36 (by decide) ?_
    refine wx_icmp_gt (tgt := 84) dX9_stroke_37 (by decide) (fun h37 => ?_) (fun h37 => ?_)
    · exact absurd h37 (by rw [zl_2, zi_lt (by omega) (by omega)]; omega) --end
    · skip
      refine wx_aload_n (i := 0) dX9_stroke_40 rfl rfl ?_
      refine wx_iload_n (i := 2) dX9_stroke_41 rfl rfl ?_
      refine wx_iload dX9_stroke_42 rfl ?_
      refine wx_iadd dX9_stroke_44 ?_
      refine wx_V1 dX9_stroke_45 zPV_X9_isZone zLk_X9_130 rfl (Nat.le_of_ble_eq_true rfl) (Nat.le_of_ble_eq_true rfl) (Or.inr rfl) ?_
      refine s_X9_isZone _ ?_
      rw [hzn]
      refine wx_r1 ?_
      refine wx_eqb (tgt := 78) dX9_stroke_48 (by decide) (fun h48 => ?_) (fun h48 => ?_)
      · rw [zTh_i hn.2 hz he _ rfl] at h48
        refine wx_inc (c := 1) dX9_stroke_78 rfl (by decide) (Nat.le_of_ble_eq_true rfl) rfl ?_
        refine wx_goto (tgt := 34) dX9_stroke_81 (by decide) ?_
        rw [zd_succ]
        refine ih (i + 1) (by omega) (fun e h => ?_)
        rcases Nat.lt_or_ge e i with q | q
        · exact hno e q
        · rw [show e = i by omega]
          first | exact hs | exact fun w => h48 w.1
      · rw [zTh_i hn.2 hz he _ rfl] at h48
        have hz48 : 2 ≤ z + i ∧ z + i < n + 2 := h48
        refine wx_aload_n (i := 0) dX9_stroke_51 rfl rfl ?_
        refine wx_getRG (k := 128) (t := 129) dX9_stroke_52 zF_X9_13 zKo_128 rfl (Nat.le_of_ble_eq_true rfl) zRf_128_1 ?_
        refine wx_iload_n (i := 2) dX9_stroke_55 rfl rfl ?_
        refine wx_iload dX9_stroke_56 rfl ?_
        refine wx_iadd dX9_stroke_58 ?_
        refine wx_ialdG (k := 129) (j := z + i - 2) dX9_stroke_59 zK_129 (Nat.le_of_ble_eq_true rfl) ?_ ?_ ?_
        · (simp only [zi_nI, zi_add] <;> first | done | exact congrArg zi (by omega))
        · exact ⟨by omega, by decide⟩
        refine wx_iload_n (i := 3) dX9_stroke_60 rfl rfl ?_
        refine wx_aload_n (i := 0) dX9_stroke_61 rfl rfl ?_
        refine wx_iload_n (i := 1) dX9_stroke_62 rfl rfl ?_
        refine wx_iload dX9_stroke_63 rfl ?_
        refine wx_V2 dX9_stroke_65 zPV_X9_pullOf zLk_X9_170 rfl (Nat.le_of_ble_eq_true rfl) (Nat.le_of_ble_eq_true rfl) (Or.inr rfl) ?_
        refine s_X9_pullOf ht he ?_
        refine wx_r1 ?_
        refine wx_imul dX9_stroke_68 ?_
        refine wx_isub dX9_stroke_69 ?_
        refine wx_ldc dX9_stroke_70 zKc_X9_134 ?_
        refine wx_icmp_ge (tgt := 78) dX9_stroke_72 (by decide) (fun h72 => ?_) (fun h72 => ?_)
        · have hs : ¬ zSk mm n z m (zPm mm t) (mm 129) i := fun q => z_ltn q.2 h72
          refine wx_inc (c := 1) dX9_stroke_78 rfl (by decide) (Nat.le_of_ble_eq_true rfl) rfl ?_
          refine wx_goto (tgt := 34) dX9_stroke_81 (by decide) ?_
          rw [zd_succ]
          refine ih (i + 1) (by omega) (fun e h => ?_)
          rcases Nat.lt_or_ge e i with q | q
          · exact hno e q
          · rw [show e = i by omega]
            first | exact hs | exact fun w => h48 w.1
        · skip
          refine wx_ldc dX9_stroke_75 zKc_X9_173 ?_
          refine wx_iret dX9_stroke_77 rfl rfl (Or.inl rfl) ?_
          exact h1 ⟨i, he, h48, z_nle h72⟩
theorem s_X9_stroke_bad {d : Nat} {K : List Value → zS → Prop} {mm : zM} {n : Nat} {a b c : Int32} (hzn : mm 128 0 = nI n)  (hb : ¬ ((0 ≤ a ∧ a ≤ 2) ∧ (0 ≤ b ∧ b ≤ nI n - 1) ∧ (1 ≤ c ∧ c ≤ 20))) (hK : K [.int (-1000000)] (zG mm)) : wm (d + 3) mX9_stroke [.ref 128, .int a, .int b, .int c] (zG mm) K := by
  refine wm_of2 (L0 := [some (.ref 128), some (.int a), some (.int b), some (.int c), none]) zCm_X9_stroke (Or.inl rfl) (Nat.le_of_ble_eq_true rfl) rfl ?_
  refine wx_iload_n (i := 1) dX9_stroke_0 rfl rfl ?_
  refine wx_iconst (v := 0) dX9_stroke_1 (by decide) ?_
  refine wx_iconst (v := 2) dX9_stroke_2 (by decide) ?_
  refine wx_S3 dX9_stroke_3 zPS_X9_in zLk_X9_116 (Nat.le_of_ble_eq_true rfl) (Or.inr rfl) ?_
  refine s_X9_in _ _ _ ?_
  refine wx_r1 ?_
  refine wx_eqb (tgt := 27) dX9_stroke_6 (by decide) (fun h6 => ?_) (fun h6 => ?_)
  · skip
    refine wx_ldc dX9_stroke_27 zKc_X9_136 ?_
    refine wx_iret dX9_stroke_29 rfl rfl (Or.inl rfl) ?_
    exact hK
  · skip
    refine wx_aload_n (i := 0) dX9_stroke_9 rfl rfl ?_
    refine wx_iload_n (i := 2) dX9_stroke_10 rfl rfl ?_
    refine wx_V1 dX9_stroke_11 zPV_X9_isZone zLk_X9_130 rfl (Nat.le_of_ble_eq_true rfl) (Nat.le_of_ble_eq_true rfl) (Or.inr rfl) ?_
    refine s_X9_isZone _ ?_
    rw [hzn]
    refine wx_r1 ?_
    refine wx_eqb (tgt := 27) dX9_stroke_14 (by decide) (fun h14 => ?_) (fun h14 => ?_)
    · skip
      refine wx_ldc dX9_stroke_27 zKc_X9_136 ?_
      refine wx_iret dX9_stroke_29 rfl rfl (Or.inl rfl) ?_
      exact hK
    · skip
      refine wx_iload_n (i := 3) dX9_stroke_17 rfl rfl ?_
      refine wx_iconst (v := 1) dX9_stroke_18 (by decide) ?_
      refine wx_bipush (v := 20) dX9_stroke_19 (by decide) ?_
      refine wx_S3 dX9_stroke_21 zPS_X9_in zLk_X9_116 (Nat.le_of_ble_eq_true rfl) (Or.inr rfl) ?_
      refine s_X9_in _ _ _ ?_
      refine wx_r1 ?_
      refine wx_neb (tgt := 30) dX9_stroke_24 (by decide) (fun h24 => ?_) (fun h24 => ?_)
      · skip
        exact (hb ⟨by assumption, by assumption, by assumption⟩).elim
      · skip
        refine wx_ldc dX9_stroke_27 zKc_X9_136 ?_
        refine wx_iret dX9_stroke_29 rfl rfl (Or.inl rfl) ?_
        exact hK
theorem s_X9_stroke_no {d : Nat} {K : List Value → zS → Prop} {mm : zM} {n z t : Nat} {m : Int32} (hn : 4 ≤ n ∧ n ≤ 16) (hz : z < n) (ht : t < 3) (hzn : mm 128 0 = nI n) (k1 : 0 ≤ nI t ∧ nI t ≤ 2) (k2 : 0 ≤ nI z ∧ nI z ≤ nI n - 1) (k3 : 1 ≤ m ∧ m ≤ 20) (hs : ∃ e, e < 5 ∧ zSk mm n z m (zPm mm t) (mm 129) e) (hK : K [.int (-1000002)] (zG mm)) : wm (d + 3) mX9_stroke [.ref 128, .int (nI t), .int (nI z), .int m] (zG mm) K := by
  refine wm_of2 (L0 := [some (.ref 128), some (.int (nI t)), some (.int (nI z)), some (.int m), none]) zCm_X9_stroke (Or.inl rfl) (Nat.le_of_ble_eq_true rfl) rfl ?_
  refine wx_iload_n (i := 1) dX9_stroke_0 rfl rfl ?_
  refine wx_iconst (v := 0) dX9_stroke_1 (by decide) ?_
  refine wx_iconst (v := 2) dX9_stroke_2 (by decide) ?_
  refine wx_S3 dX9_stroke_3 zPS_X9_in zLk_X9_116 (Nat.le_of_ble_eq_true rfl) (Or.inr rfl) ?_
  refine s_X9_in _ _ _ ?_
  refine wx_r1 ?_
  refine wx_eqb (tgt := 27) dX9_stroke_6 (by decide) (fun h6 => ?_) (fun h6 => ?_)
  · contradiction --end
  · skip
    refine wx_aload_n (i := 0) dX9_stroke_9 rfl rfl ?_
    refine wx_iload_n (i := 2) dX9_stroke_10 rfl rfl ?_
    refine wx_V1 dX9_stroke_11 zPV_X9_isZone zLk_X9_130 rfl (Nat.le_of_ble_eq_true rfl) (Nat.le_of_ble_eq_true rfl) (Or.inr rfl) ?_
    refine s_X9_isZone _ ?_
    rw [hzn]
    refine wx_r1 ?_
    refine wx_eqb (tgt := 27) dX9_stroke_14 (by decide) (fun h14 => ?_) (fun h14 => ?_)
    · contradiction --end
    · skip
      refine wx_iload_n (i := 3) dX9_stroke_17 rfl rfl ?_
      refine wx_iconst (v := 1) dX9_stroke_18 (by decide) ?_
      refine wx_bipush (v := 20) dX9_stroke_19 (by decide) ?_
      refine wx_S3 dX9_stroke_21 zPS_X9_in zLk_X9_116 (Nat.le_of_ble_eq_true rfl) (Or.inr rfl) ?_
      refine s_X9_in _ _ _ ?_
      refine wx_r1 ?_
      refine wx_neb (tgt := 30) dX9_stroke_24 (by decide) (fun h24 => ?_) (fun h24 => ?_)
      · skip
        refine wx_bipush (v := (-2)) dX9_stroke_30 (by decide) ?_
        refine wx_istore dX9_stroke_32 (Nat.le_of_ble_eq_true rfl) rfl ?_
        exact lp_sinkM hn hz ht hzn (fun _ => hK) (fun q => absurd hs q) 5 0 (by omega) (fun e h => absurd h (Nat.not_lt_zero e))
      · contradiction --end
theorem lp_strokeM_full {d : Nat} {K : List Value → zS → Prop} {mm : zM} {n z t : Nat} {m : Int32} (hn : 4 ≤ n ∧ n ≤ 16) (hz : z < n) (ht : t < 3) (hzn : mm 128 0 = nI n) (hks : mm 128 14 = 60) (hK : K [.int (-1000003)] (zG mm)) : wx (d + 3) mX9_stroke 84 [some (.ref 128), some (.int (nI t)), some (.int (nI z)), some (.int m), none] [] (zG mm) K := by
  refine wx_aload_n (i := 0) dX9_stroke_84 rfl rfl ?_
  refine wx_getIG (k := 128) dX9_stroke_85 zF_X9_113 zKo_128 rfl (Nat.le_of_ble_eq_true rfl) ?_
  refine wx_bipush (v := 60) dX9_stroke_88 (by decide) ?_
  refine wx_icmp_ne (tgt := 96) dX9_stroke_90 (by decide) (fun h90 => ?_) (fun h90 => ?_)
  · exact absurd hks h90 --end
  · skip
    refine wx_ldc dX9_stroke_93 zKc_X9_174 ?_
    refine wx_iret dX9_stroke_95 rfl rfl (Or.inl rfl) ?_
    exact hK
theorem lp_strokeM_ok {d : Nat} {K : List Value → zS → Prop} {mm : zM} {n z t : Nat} {m : Int32} (hn : 4 ≤ n ∧ n ≤ 16) (hz : z < n) (ht : t < 3) (hzn : mm 128 0 = nI n) {k : Nat} (hk : k < 60) (hks : mm 128 14 = nI k) (hK : K [.int (zDoM mm n z t m k 129 z)] (zG (zDoM mm n z t m k))) : wx (d + 3) mX9_stroke 84 [some (.ref 128), some (.int (nI t)), some (.int (nI z)), some (.int m), none] [] (zG mm) K := by
  refine wx_aload_n (i := 0) dX9_stroke_84 rfl rfl ?_
  refine wx_getIG (k := 128) dX9_stroke_85 zF_X9_113 zKo_128 rfl (Nat.le_of_ble_eq_true rfl) ?_
  refine wx_bipush (v := 60) dX9_stroke_88 (by decide) ?_
  refine wx_icmp_ne (tgt := 96) dX9_stroke_90 (by decide) (fun h90 => ?_) (fun h90 => ?_)
  · skip
    refine wx_aload_n (i := 0) dX9_stroke_96 rfl rfl ?_
    refine wx_iload_n (i := 1) dX9_stroke_97 rfl rfl ?_
    refine wx_iload_n (i := 2) dX9_stroke_98 rfl rfl ?_
    refine wx_iload_n (i := 3) dX9_stroke_99 rfl rfl ?_
    refine wx_V3 dX9_stroke_100 zPV_X9_lays zLk_X9_175 rfl (Nat.le_of_ble_eq_true rfl) (Nat.le_of_ble_eq_true rfl) (Or.inr rfl) ?_
    refine s_X9_lays hn hz ht hzn hk hks ?_
    refine wx_r0 ?_
    refine wx_aload_n (i := 0) dX9_stroke_103 rfl rfl ?_
    refine wx_getRG (k := 128) (t := 129) dX9_stroke_104 zF_X9_13 zKo_128 rfl (Nat.le_of_ble_eq_true rfl) zRf_128_1 ?_
    refine wx_iload_n (i := 2) dX9_stroke_107 rfl rfl ?_
    refine wx_ialdG (k := 129) dX9_stroke_108 zK_129 (Nat.le_of_ble_eq_true rfl) rfl ?_ ?_
    · exact ⟨by omega, by decide⟩
    refine wx_iret dX9_stroke_109 rfl rfl (Or.inl rfl) ?_
    exact hK
  · exact absurd (show mm 128 14 = nI 60 from h90) (by rw [hks, nI_eq (by omega) (by decide)]; omega) --end
theorem s_X9_stroke_full {d : Nat} {K : List Value → zS → Prop} {mm : zM} {n z t : Nat} {m : Int32} (hn : 4 ≤ n ∧ n ≤ 16) (hz : z < n) (ht : t < 3) (hzn : mm 128 0 = nI n) (k1 : 0 ≤ nI t ∧ nI t ≤ 2) (k2 : 0 ≤ nI z ∧ nI z ≤ nI n - 1) (k3 : 1 ≤ m ∧ m ≤ 20) (hs : ¬ ∃ e, e < 5 ∧ zSk mm n z m (zPm mm t) (mm 129) e) (hks : mm 128 14 = 60) (hK : K [.int (-1000003)] (zG mm)) : wm (d + 3) mX9_stroke [.ref 128, .int (nI t), .int (nI z), .int m] (zG mm) K := by
  refine wm_of2 (L0 := [some (.ref 128), some (.int (nI t)), some (.int (nI z)), some (.int m), none]) zCm_X9_stroke (Or.inl rfl) (Nat.le_of_ble_eq_true rfl) rfl ?_
  refine wx_iload_n (i := 1) dX9_stroke_0 rfl rfl ?_
  refine wx_iconst (v := 0) dX9_stroke_1 (by decide) ?_
  refine wx_iconst (v := 2) dX9_stroke_2 (by decide) ?_
  refine wx_S3 dX9_stroke_3 zPS_X9_in zLk_X9_116 (Nat.le_of_ble_eq_true rfl) (Or.inr rfl) ?_
  refine s_X9_in _ _ _ ?_
  refine wx_r1 ?_
  refine wx_eqb (tgt := 27) dX9_stroke_6 (by decide) (fun h6 => ?_) (fun h6 => ?_)
  · contradiction --end
  · skip
    refine wx_aload_n (i := 0) dX9_stroke_9 rfl rfl ?_
    refine wx_iload_n (i := 2) dX9_stroke_10 rfl rfl ?_
    refine wx_V1 dX9_stroke_11 zPV_X9_isZone zLk_X9_130 rfl (Nat.le_of_ble_eq_true rfl) (Nat.le_of_ble_eq_true rfl) (Or.inr rfl) ?_
    refine s_X9_isZone _ ?_
    rw [hzn]
    refine wx_r1 ?_
    refine wx_eqb (tgt := 27) dX9_stroke_14 (by decide) (fun h14 => ?_) (fun h14 => ?_)
    · contradiction --end
    · skip
      refine wx_iload_n (i := 3) dX9_stroke_17 rfl rfl ?_
      refine wx_iconst (v := 1) dX9_stroke_18 (by decide) ?_
      refine wx_bipush (v := 20) dX9_stroke_19 (by decide) ?_
      refine wx_S3 dX9_stroke_21 zPS_X9_in zLk_X9_116 (Nat.le_of_ble_eq_true rfl) (Or.inr rfl) ?_
      refine s_X9_in _ _ _ ?_
      refine wx_r1 ?_
      refine wx_neb (tgt := 30) dX9_stroke_24 (by decide) (fun h24 => ?_) (fun h24 => ?_)
      · skip
        refine wx_bipush (v := (-2)) dX9_stroke_30 (by decide) ?_
        refine wx_istore dX9_stroke_32 (Nat.le_of_ble_eq_true rfl) rfl ?_
        exact lp_sinkM hn hz ht hzn (fun q => absurd q hs) (fun _ => lp_strokeM_full hn hz ht hzn hks hK) 5 0 (by omega) (fun e h => absurd h (Nat.not_lt_zero e))
      · contradiction --end
theorem s_X9_stroke_ok {d : Nat} {K : List Value → zS → Prop} {mm : zM} {n z t : Nat} {m : Int32} (hn : 4 ≤ n ∧ n ≤ 16) (hz : z < n) (ht : t < 3) (hzn : mm 128 0 = nI n) {k : Nat} (hk : k < 60) (hks : mm 128 14 = nI k) (k1 : 0 ≤ nI t ∧ nI t ≤ 2) (k2 : 0 ≤ nI z ∧ nI z ≤ nI n - 1) (k3 : 1 ≤ m ∧ m ≤ 20) (hs : ¬ ∃ e, e < 5 ∧ zSk mm n z m (zPm mm t) (mm 129) e) (hK : K [.int (zDoM mm n z t m k 129 z)] (zG (zDoM mm n z t m k))) : wm (d + 3) mX9_stroke [.ref 128, .int (nI t), .int (nI z), .int m] (zG mm) K := by
  refine wm_of2 (L0 := [some (.ref 128), some (.int (nI t)), some (.int (nI z)), some (.int m), none]) zCm_X9_stroke (Or.inl rfl) (Nat.le_of_ble_eq_true rfl) rfl ?_
  refine wx_iload_n (i := 1) dX9_stroke_0 rfl rfl ?_
  refine wx_iconst (v := 0) dX9_stroke_1 (by decide) ?_
  refine wx_iconst (v := 2) dX9_stroke_2 (by decide) ?_
  refine wx_S3 dX9_stroke_3 zPS_X9_in zLk_X9_116 (Nat.le_of_ble_eq_true rfl) (Or.inr rfl) ?_
  refine s_X9_in _ _ _ ?_
  refine wx_r1 ?_
  refine wx_eqb (tgt := 27) dX9_stroke_6 (by decide) (fun h6 => ?_) (fun h6 => ?_)
  · contradiction --end
  · skip
    refine wx_aload_n (i := 0) dX9_stroke_9 rfl rfl ?_
    refine wx_iload_n (i := 2) dX9_stroke_10 rfl rfl ?_
    refine wx_V1 dX9_stroke_11 zPV_X9_isZone zLk_X9_130 rfl (Nat.le_of_ble_eq_true rfl) (Nat.le_of_ble_eq_true rfl) (Or.inr rfl) ?_
    refine s_X9_isZone _ ?_
    rw [hzn]
    refine wx_r1 ?_
    refine wx_eqb (tgt := 27) dX9_stroke_14 (by decide) (fun h14 => ?_) (fun h14 => ?_)
    · contradiction --end
    · skip
      refine wx_iload_n (i := 3) dX9_stroke_17 rfl rfl ?_
      refine wx_iconst (v := 1) dX9_stroke_18 (by decide) ?_
      refine wx_bipush (v := 20) dX9_stroke_19 (by decide) ?_
      refine wx_S3 dX9_stroke_21 zPS_X9_in zLk_X9_116 (Nat.le_of_ble_eq_true rfl) (Or.inr rfl) ?_
      refine s_X9_in _ _ _ ?_
      refine wx_r1 ?_
      refine wx_neb (tgt := 30) dX9_stroke_24 (by decide) (fun h24 => ?_) (fun h24 => ?_)
      · skip
        refine wx_bipush (v := (-2)) dX9_stroke_30 (by decide) ?_
        refine wx_istore dX9_stroke_32 (Nat.le_of_ble_eq_true rfl) rfl ?_
        exact lp_sinkM hn hz ht hzn (fun q => absurd q hs) (fun _ => lp_strokeM_ok hn hz ht hzn hk hks hK) 5 0 (by omega) (fun e h => absurd h (Nat.not_lt_zero e))
      · contradiction --end
/-- what the k-th stroke of the reference took -/
def zTm (mm : zM) (k : Nat) : Nat → Int32 := fun e => mm 139 (5 * k + e)
def zUdM (mm : zM) (n z k : Nat) : zM := zUn (zU mm 128 14 (nI k)) 129 n z (zTm mm k) 5
theorem lp_undoM {d : Nat} {K : List Value → zS → Prop} {mm : zM} {n z k : Nat} (hn : 4 ≤ n ∧ n ≤ 16) (hz : z < n) (hzn : mm 128 0 = nI n) (hk : k < 60) (hks : mm 128 14 = nI (k + 1)) (hkz : mm 137 k = nI z) (hK : K [.int (nI k)] (zG (zUdM mm n z k))) : ∀ c i : Nat, i + c = 5 → wx (d + 2) mX9_undo 23 [some (.ref 128), some (.int (zi ((i : Int) - 2))), none] [] (zG (zUn (zU mm 128 14 (nI k)) 129 n z (zTm mm k) i)) K := by
  intro c
  induction c with
  | zero =>
    intro i hi
    have hin : i = 5 := by omega
    subst hin
    have hks2 : zUn (zU mm 128 14 (nI k)) 129 n z (zTm mm k) 5 128 14 = nI k := (congrFun (zUn_off (by decide)) 14).trans (zU_same _ _ _ _)
    refine wx_iload_n (i := 1) dX9_undo_23 rfl rfl ?_
    refine wx_iconst (v := 2) dX9_undo_24 (by decide) ?_
    refine wx_icmp_gt (tgt := 78) dX9_undo_25 (by decide) (fun h25 => ?_) (fun h25 => ?_)
    · skip
      refine wx_aload_n (i := 0) dX9_undo_78 rfl rfl ?_
      refine wx_getIG (k := 128) dX9_undo_79 zF_X9_113 zKo_128 rfl (Nat.le_of_ble_eq_true rfl) ?_
      refine wx_iret dX9_undo_82 rfl rfl (Or.inl rfl) ?_
      rw [hks2]
      exact hK
    · exact absurd (by rw [zl_2]; exact (zi_lt (by omega) (by omega)).mpr (by omega)) h25 --end
  | succ c ih =>
    intro i hi
    have he : i < 5 := by omega
    have e17 : (zUn (zU mm 128 14 (nI k)) 129 n z (zTm mm k) i) 128 = zU mm 128 14 (nI k) 128 := zUn_off (by decide)
    have hzn2 : (zUn (zU mm 128 14 (nI k)) 129 n z (zTm mm k) i) 128 0 = nI n := by rw [e17]; exact (zU_off (by omega)).trans hzn
    have hks2 : (zUn (zU mm 128 14 (nI k)) 129 n z (zTm mm k) i) 128 14 = nI k := by rw [e17]; exact zU_same _ _ _ _
    have ez : (zUn (zU mm 128 14 (nI k)) 129 n z (zTm mm k) i) 137 k = nI z := (congrFun (zUn_off (by decide)) k).trans ((zU_off (by omega)).trans hkz)
    have etk : (zUn (zU mm 128 14 (nI k)) 129 n z (zTm mm k) i) 139 (5 * k + i) = zTm mm k i := (congrFun (zUn_off (by decide)) _).trans (zU_off (by omega))
    have ezz : nI z + zi ((i : Int) - 2) = nI z + zi ((i : Int) - 2) := rfl
    refine wx_iload_n (i := 1) dX9_undo_23 rfl rfl ?_
    refine wx_iconst (v := 2) dX9_undo_24 (by decide) ?_
    refine wx_icmp_gt (tgt := 78) dX9_undo_25 (by decide) (fun h25 => ?_) (fun h25 => ?_)
    · exact absurd h25 (by rw [zl_2, zi_lt (by omega) (by omega)]; omega) --end
    · skip
      refine wx_aload_n (i := 0) dX9_undo_28 rfl rfl ?_
      refine wx_getRG (k := 128) (t := 137) dX9_undo_29 zF_X9_53 zKo_128 rfl (Nat.le_of_ble_eq_true rfl) zRf_128_16 ?_
      refine wx_aload_n (i := 0) dX9_undo_32 rfl rfl ?_
      refine wx_getIG (k := 128) dX9_undo_33 zF_X9_113 zKo_128 rfl (Nat.le_of_ble_eq_true rfl) ?_
      refine wx_ialdG (k := 137) (j := k) dX9_undo_36 zK_137 (Nat.le_of_ble_eq_true rfl) ?_ ?_ ?_
      · exact hks2
      · exact ⟨hk, by decide⟩
      refine wx_iload_n (i := 1) dX9_undo_37 rfl rfl ?_
      refine wx_iadd dX9_undo_38 ?_
      refine wx_istore_n (i := 2) dX9_undo_39 rfl (Nat.le_of_ble_eq_true rfl) rfl ?_
      refine wx_aload_n (i := 0) dX9_undo_40 rfl rfl ?_
      refine wx_iload_n (i := 2) dX9_undo_41 rfl rfl ?_
      refine wx_V1 dX9_undo_42 zPV_X9_isZone zLk_X9_130 rfl (Nat.le_of_ble_eq_true rfl) (Nat.le_of_ble_eq_true rfl) (Or.inr rfl) ?_
      refine s_X9_isZone _ ?_
      refine wx_r1 ?_
      refine wx_eqb (tgt := 72) dX9_undo_45 (by decide) (fun h45 => ?_) (fun h45 => ?_)
      · rw [ez, zTh_i hn.2 hz he _ hzn2] at h45
        refine wx_inc (c := 1) dX9_undo_72 rfl (by decide) (Nat.le_of_ble_eq_true rfl) rfl ?_
        refine wx_goto (tgt := 23) dX9_undo_75 (by decide) ?_
        refine wx_weak 2 ?_
        rw [zd_succ]
        first
          | (rw [etk, zUn_T (by assumption)]
             exact ih (i + 1) (by omega))
          | (rw [zUn_F (by assumption)]
             exact ih (i + 1) (by omega))
      · rw [ez, zTh_i hn.2 hz he _ hzn2] at h45
        have hz45 : 2 ≤ z + i ∧ z + i < n + 2 := h45
        refine wx_aload_n (i := 0) dX9_undo_48 rfl rfl ?_
        refine wx_getRG (k := 128) (t := 129) dX9_undo_49 zF_X9_13 zKo_128 rfl (Nat.le_of_ble_eq_true rfl) zRf_128_1 ?_
        refine wx_iload_n (i := 2) dX9_undo_52 rfl rfl ?_
        refine wx_dup2 dX9_undo_53 rfl rfl ?_
        refine wx_ialdG (k := 129) (j := z + i - 2) dX9_undo_54 zK_129 (Nat.le_of_ble_eq_true rfl) ?_ ?_ ?_
        · (rw [ez]; simp only [zi_nI, zi_add] <;> first | done | exact congrArg zi (by omega))
        · exact ⟨by omega, by decide⟩
        refine wx_aload_n (i := 0) dX9_undo_55 rfl rfl ?_
        refine wx_getRG (k := 128) (t := 139) dX9_undo_56 zF_X9_59 zKo_128 rfl (Nat.le_of_ble_eq_true rfl) zRf_128_18 ?_
        refine wx_iconst (v := 5) dX9_undo_59 (by decide) ?_
        refine wx_aload_n (i := 0) dX9_undo_60 rfl rfl ?_
        refine wx_getIG (k := 128) dX9_undo_61 zF_X9_113 zKo_128 rfl (Nat.le_of_ble_eq_true rfl) ?_
        refine wx_imul dX9_undo_64 ?_
        refine wx_iload_n (i := 1) dX9_undo_65 rfl rfl ?_
        refine wx_iadd dX9_undo_66 ?_
        refine wx_iconst (v := 2) dX9_undo_67 (by decide) ?_
        refine wx_iadd dX9_undo_68 ?_
        refine wx_ialdG (k := 139) (j := 5 * k + i) dX9_undo_69 zK_139 (Nat.le_of_ble_eq_true rfl) ?_ ?_ ?_
        · (rw [hks2]; simp only [zl_5, zl_2, zi_nI, zi_mul, zi_add, zi_sub] <;> first | done | exact congrArg zi (by omega))
        · exact ⟨by omega, by decide⟩
        refine wx_iadd dX9_undo_70 ?_
        refine wx_iastG (k := 129) (j := z + i - 2) dX9_undo_71 zK_129 (Nat.le_of_ble_eq_true rfl) ?_ ?_ ?_
        · (rw [ez]; simp only [zi_nI, zi_add] <;> first | done | exact congrArg zi (by omega))
        · exact ⟨by omega, by decide⟩
        refine wx_inc (c := 1) dX9_undo_72 rfl (by decide) (Nat.le_of_ble_eq_true rfl) rfl ?_
        refine wx_goto (tgt := 23) dX9_undo_75 (by decide) ?_
        refine wx_weak 2 ?_
        rw [zd_succ]
        first
          | (rw [etk, zUn_T (by assumption)]
             exact ih (i + 1) (by omega))
          | (rw [zUn_F (by assumption)]
             exact ih (i + 1) (by omega))
theorem s_X9_undo_no {d : Nat} {K : List Value → zS → Prop} {mm : zM} (hks : mm 128 14 = 0) (hK : K [.int (-2)] (zG mm)) : wm (d) mX9_undo [.ref 128] (zG mm) K := by
  refine wm_of2 (L0 := [some (.ref 128), none, none]) zCm_X9_undo (Or.inl rfl) (Nat.le_of_ble_eq_true rfl) rfl ?_
  refine wx_aload_n (i := 0) dX9_undo_0 rfl rfl ?_
  refine wx_getIG (k := 128) dX9_undo_1 zF_X9_113 zKo_128 rfl (Nat.le_of_ble_eq_true rfl) ?_
  refine wx_if_ne (tgt := 10) dX9_undo_4 (by decide) (fun h4 => ?_) (fun h4 => ?_)
  · exact absurd hks h4 --end
  · skip
    refine wx_bipush (v := (-2)) dX9_undo_7 (by decide) ?_
    refine wx_iret dX9_undo_9 rfl rfl (Or.inl rfl) ?_
    exact hK
theorem s_X9_undo_ok {d : Nat} {K : List Value → zS → Prop} {mm : zM} {n z k : Nat} (hn : 4 ≤ n ∧ n ≤ 16) (hz : z < n) (hzn : mm 128 0 = nI n) (hk : k < 60) (hks : mm 128 14 = nI (k + 1)) (hkz : mm 137 k = nI z) (hK : K [.int (nI k)] (zG (zUdM mm n z k))) : wm (d + 2) mX9_undo [.ref 128] (zG mm) K := by
  have e8 : mm 128 14 - 1 = nI k := by rw [hks, nI_pred]
  refine wm_of2 (L0 := [some (.ref 128), none, none]) zCm_X9_undo (Or.inl rfl) (Nat.le_of_ble_eq_true rfl) rfl ?_
  refine wx_aload_n (i := 0) dX9_undo_0 rfl rfl ?_
  refine wx_getIG (k := 128) dX9_undo_1 zF_X9_113 zKo_128 rfl (Nat.le_of_ble_eq_true rfl) ?_
  refine wx_if_ne (tgt := 10) dX9_undo_4 (by decide) (fun h4 => ?_) (fun h4 => ?_)
  · skip
    refine wx_aload_n (i := 0) dX9_undo_10 rfl rfl ?_
    refine wx_dup dX9_undo_11 rfl ?_
    refine wx_getIG (k := 128) dX9_undo_12 zF_X9_113 zKo_128 rfl (Nat.le_of_ble_eq_true rfl) ?_
    refine wx_iconst (v := 1) dX9_undo_15 (by decide) ?_
    refine wx_isub dX9_undo_16 ?_
    refine wx_putIG (k := 128) dX9_undo_17 zF_X9_113 zKo_128 rfl (Nat.le_of_ble_eq_true rfl) rfl rfl ?_
    refine wx_bipush (v := (-2)) dX9_undo_20 (by decide) ?_
    refine wx_istore_n (i := 1) dX9_undo_22 rfl (Nat.le_of_ble_eq_true rfl) rfl ?_
    rw [e8]
    have h := lp_undoM (d := d) hn hz hzn hk hks hkz hK 5 0 (by omega)
    rw [zUn_0] at h
    exact h
  · exact absurd (show mm 128 14 = nI 0 from h4) (by rw [hks, nI_eq (by omega) (by decide)]; omega) --end
