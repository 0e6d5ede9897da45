/-! the rings of the class -/
/-- how a zone is bent while the first rings bear their shares -/
def zRw (bd : Nat → Nat → Int) (t : List Nat) : Nat → Nat → Int
  | 0, z => 12 * bd 6 z
  | k + 1, z => zRw bd t k z - (t.getD k 0 : Int) * bd k z
def zSu (t : List Nat) : Nat → Nat
  | 0 => 0
  | k + 1 => zSu t k + t.getD k 0
theorem zRw_cong {bd : Nat → Nat → Int} {t u : List Nat} : ∀ {k : Nat}, (∀ r, r < k → t.getD r 0 = u.getD r 0) → ∀ z, zRw bd t k z = zRw bd u k z
  | 0, _, _ => rfl
  | k + 1, h, z => by
    show zRw bd t k z - _ = zRw bd u k z - _
    rw [zRw_cong (fun r hr => h r (by omega)) z, h k (by omega)]
theorem zSu_cong {t u : List Nat} : ∀ {k : Nat}, (∀ r, r < k → t.getD r 0 = u.getD r 0) → zSu t k = zSu u k
  | 0, _ => rfl
  | k + 1, h => by
    show zSu t k + _ = zSu u k + _
    rw [zSu_cong (fun r hr => h r (by omega)), h k (by omega)]
theorem zRw_zero {bd : Nat → Nat → Int} {t : List Nat} {k : Nat} (h : ∀ r, k ≤ r → t.getD r 0 = 0) (z : Nat) : ∀ j : Nat, zRw bd t (k + j) z = zRw bd t k z
  | 0 => rfl
  | j + 1 => by
    show zRw bd t (k + j) z - (t.getD (k + j) 0 : Int) * bd (k + j) z = _
    rw [zRw_zero h z j, h (k + j) (by omega)]
    simp
theorem zRw_bd {bd : Nat → Nat → Int} (hb : ∀ r z, -500 ≤ bd r z ∧ bd r z ≤ 500) (t : List Nat) (z : Nat) : ∀ k : Nat, -6000 - 500 * (zSu t k : Int) ≤ zRw bd t k z ∧ zRw bd t k z ≤ 6000 + 500 * (zSu t k : Int)
  | 0 => by
    have := hb 6 z
    show _ ≤ 12 * bd 6 z ∧ 12 * bd 6 z ≤ _
    show -6000 - 500 * ((0 : Nat) : Int) ≤ 12 * bd 6 z ∧ 12 * bd 6 z ≤ 6000 + 500 * ((0 : Nat) : Int)
    omega
  | k + 1 => by
    have h := zRw_bd hb t z k
    have h2 := hb k z
    have h3 : -(500 * (t.getD k 0 : Int)) ≤ bd k z * (t.getD k 0 : Int) ∧ bd k z * (t.getD k 0 : Int) ≤ 500 * (t.getD k 0 : Int) := zBy h2 ⟨by omega, Int.le_refl _⟩
    rw [Int.mul_comm (bd k z)] at h3
    show _ ≤ zRw bd t k z - (t.getD k 0 : Int) * bd k z ∧ zRw bd t k z - (t.getD k 0 : Int) * bd k z ≤ _
    show -6000 - 500 * ((zSu t k + t.getD k 0 : Nat) : Int) ≤ _ ∧ _ ≤ 6000 + 500 * ((zSu t k + t.getD k 0 : Nat) : Int)
    generalize (t.getD k 0 : Int) * bd k z = y at h3 ⊢
    omega
/-- the greatest less the least of the first so many -/
def zSpr (w : Nat → Int) (n : Nat) : Int := zMx w (w 0) n - zMn w (w 0) n
theorem zSpr_cong {f g : Nat → Int} {n : Nat} (hn : 0 < n) (h : ∀ j, j < n → f j = g j) : zSpr f n = zSpr g n := by
  unfold zSpr
  rw [zMx_cong h, zMn_cong h, h 0 hn]
theorem zMx_1 (w : Nat → Int) : zMx w (w 0) 1 = w 0 := by
  show (if w 0 ≤ w 0 then w 0 else w 0) = _
  rw [if_pos (Int.le_refl _)]
theorem zMn_1 (w : Nat → Int) : zMn w (w 0) 1 = w 0 := by
  show (if w 0 ≤ w 0 then w 0 else w 0) = _
  rw [if_pos (Int.le_refl _)]
/-- the first of the least spreads is kept -/
def zStp (sp : List Nat → Int) (st : Int × List Nat) (t : List Nat) : Int × List Nat := if sp t < st.1 then (sp t, t) else st
def zSpt (bd : Nat → Nat → Int) (n : Nat) (t : List Nat) : Int := zSpr (zRw bd t 6) n
theorem zPad_getD (t : List Nat) (r : Nat) : (zPad t).getD r 0 = t.getD r 0 := by
  unfold zPad
  rw [List.getD_eq_getElem?_getD, List.getD_eq_getElem?_getD]
  by_cases h : r < t.length
  · rw [List.getElem?_append_left h]
  · rw [List.getElem?_append_right (by omega), List.getElem?_eq_none (by omega : t.length ≤ r)]
    by_cases g : r - t.length < 6 - t.length
    · rw [List.getElem?_replicate, if_pos g]; rfl
    · rw [List.getElem?_replicate, if_neg g]
theorem zGetD_len {t : List Nat} {r : Nat} (h : t.length ≤ r) : t.getD r 0 = 0 := by
  rw [List.getD_eq_getElem?_getD, List.getElem?_eq_none h]
  rfl
theorem zGetD_snoc_l {t : List Nat} {r s : Nat} (h : r < t.length) : (t ++ [s]).getD r 0 = t.getD r 0 := by
  rw [List.getD_eq_getElem?_getD, List.getD_eq_getElem?_getD, List.getElem?_append_left h]
theorem zGetD_snoc_e {t : List Nat} {r s : Nat} (h : t.length = r) : (t ++ [s]).getD r 0 = s := by
  rw [List.getD_eq_getElem?_getD, List.getElem?_append_right (by omega), show r - t.length = 0 by omega]
  rfl
/-- what is told of the rings of the class -/
def zRc (bd : Nat → Nat → Int) (n : Nat) (mm : zM) : Prop := (∀ r z, r < 7 → z < 16 → mm (99 + 1 + r) z = zi (bd r z)) ∧ mm 98 4 = nI n
def zRo (bd : Nat → Nat → Int) (n : Nat) : Prop := (∀ r z, -500 ≤ bd r z ∧ bd r z ≤ 500) ∧ 4 ≤ n ∧ n ≤ 16
def zRs (st : Int × List Nat) (mm : zM) : Prop := (mm 98 5 = zi st.1 ∧ -100000 ≤ st.1 ∧ st.1 ≤ 100000) ∧ ∀ r, r < 6 → mm 113 r = nI (st.2.getD r 0)
theorem lp_spread {d : Nat} {K : List Value → zS → Prop} {mm : zM} {k n : Nat} {w : Nat → Int} (hk : 108 ≤ k ∧ k ≤ 111) (hn : 4 ≤ n ∧ n ≤ 16) (hz : mm 98 4 = nI n) (hw : ∀ z, z < n → mm k z = zi (w z)) (hb : ∀ z, -100000 ≤ w z ∧ w z ≤ 100000) (hK : K [.int (zi (zSpr w n))] (zG mm))  : ∀ (c i : Nat) , i + c = (n - 1) →  wx (d + 1) mX5_spreadOf 11 [some (.ref 98), some (.ref k), some (.int (zi (zMn w (w 0) (i + 1)))), some (.int (zi (zMx w (w 0) (i + 1)))), some (.int (nI (i + 1)))] [] (zG mm) K := by
  intro c
  induction c with
  | zero =>
    intro i  hi 
    obtain rfl : i = (n - 1) := by omega
    refine wx_iload dX5_spreadOf_11 rfl ?_
    refine wx_aload_n (i := 0) dX5_spreadOf_13 rfl rfl ?_
    refine wx_getIG (k := 98) dX5_spreadOf_14 zF_X5_26 zKo_98 rfl (Nat.le_of_ble_eq_true rfl) ?_
    refine wx_icmp_ge (tgt := 44) dX5_spreadOf_17 (by decide) (fun h17 => ?_) (fun h17 => ?_)
    · skip
      refine wx_iload_n (i := 3) dX5_spreadOf_44 rfl rfl ?_
      refine wx_iload_n (i := 2) dX5_spreadOf_45 rfl rfl ?_
      refine wx_isub dX5_spreadOf_46 ?_
      refine wx_iret dX5_spreadOf_47 rfl rfl (Or.inl rfl) ?_
      rw [show n - 1 + 1 = n by omega, zi_sub]
      exact hK
    · exact absurd (show mm 98 4 ≤ nI (n - 1 + 1) by rw [hz]; exact nI_le (by omega) (by omega)) h17 --end
  | succ c ih =>
    intro i  hi 
    have hb1 := hb (i + 1)
    have hbx := zMx_bd (f := w) (o := w 0) (n := i + 1) (fun j _ => hb j) (hb 0)
    have hbn := zMn_bd (f := w) (o := w 0) (n := i + 1) (fun j _ => hb j) (hb 0)
    refine wx_iload dX5_spreadOf_11 rfl ?_
    refine wx_aload_n (i := 0) dX5_spreadOf_13 rfl rfl ?_
    refine wx_getIG (k := 98) dX5_spreadOf_14 zF_X5_26 zKo_98 rfl (Nat.le_of_ble_eq_true rfl) ?_
    refine wx_icmp_ge (tgt := 44) dX5_spreadOf_17 (by decide) (fun h17 => ?_) (fun h17 => ?_)
    · exact absurd (show mm 98 4 ≤ nI (i + 1) from h17) (by rw [hz]; exact nI_ge (by omega) (by omega)) --end
    · skip
      refine wx_iload_n (i := 2) dX5_spreadOf_20 rfl rfl ?_
      refine wx_aload_n (i := 1) dX5_spreadOf_21 rfl rfl ?_
      refine wx_iload dX5_spreadOf_22 rfl ?_
      refine wx_ialdG dX5_spreadOf_24 (by obtain ⟨j, rfl⟩ : ∃ j, k = 107 + 1 + j := ⟨k - 108, by omega⟩; exact zKin_107 _ (by omega)) (by omega) rfl ?_ ?_
      · exact ⟨by omega, by decide⟩
      refine wx_S2 dX5_spreadOf_25 zPS_J9_min_7cf53 zLk_X5_62 (Nat.le_of_ble_eq_true rfl) (Or.inr rfl) ?_
      refine s_J9_min_7cf53 _ _ ?_
      refine wx_r1 ?_
      refine wx_istore_n (i := 2) dX5_spreadOf_28 rfl (Nat.le_of_ble_eq_true rfl) rfl ?_
      refine wx_iload_n (i := 3) dX5_spreadOf_29 rfl rfl ?_
      refine wx_aload_n (i := 1) dX5_spreadOf_30 rfl rfl ?_
      refine wx_iload dX5_spreadOf_31 rfl ?_
      refine wx_ialdG dX5_spreadOf_33 (by obtain ⟨j, rfl⟩ : ∃ j, k = 107 + 1 + j := ⟨k - 108, by omega⟩; exact zKin_107 _ (by omega)) (by omega) rfl ?_ ?_
      · exact ⟨by omega, by decide⟩
      refine wx_S2 dX5_spreadOf_34 zPS_J9_max_7cf53 zLk_X5_68 (Nat.le_of_ble_eq_true rfl) (Or.inr rfl) ?_
      refine s_J9_max_7cf53 _ _ ?_
      refine wx_r1 ?_
      refine wx_istore_n (i := 3) dX5_spreadOf_37 rfl (Nat.le_of_ble_eq_true rfl) rfl ?_
      refine wx_inc (c := 1) dX5_spreadOf_38 rfl (by decide) (Nat.le_of_ble_eq_true rfl) rfl ?_
      refine wx_goto (tgt := 11) dX5_spreadOf_41 (by decide) ?_
      rw [nI_1, hw (i + 1) (by omega)]
      have e1 : (if zi (zMn w (w 0) (i + 1)) ≤ zi (w (i + 1)) then zi (zMn w (w 0) (i + 1)) else zi (w (i + 1))) = zi (zMn w (w 0) (i + 1 + 1)) := by
        show _ = zi (if zMn w (w 0) (i + 1) ≤ w (i + 1) then zMn w (w 0) (i + 1) else w (i + 1))
        by_cases q : zMn w (w 0) (i + 1) ≤ w (i + 1)
        · rw [if_pos q, if_pos ((zi_le (by omega) (by omega)).mpr q)]
        · rw [if_neg q, if_neg (fun u => q ((zi_le (by omega) (by omega)).mp u))]
      have e2 : (if zi (w (i + 1)) ≤ zi (zMx w (w 0) (i + 1)) then zi (zMx w (w 0) (i + 1)) else zi (w (i + 1))) = zi (zMx w (w 0) (i + 1 + 1)) := by
        show _ = zi (if w (i + 1) ≤ zMx w (w 0) (i + 1) then zMx w (w 0) (i + 1) else w (i + 1))
        by_cases q : w (i + 1) ≤ zMx w (w 0) (i + 1)
        · rw [if_pos q, if_pos ((zi_le (by omega) (by omega)).mpr q)]
        · rw [if_neg q, if_neg (fun u => q ((zi_le (by omega) (by omega)).mp u))]
      rw [e1, e2]
      exact ih (i + 1) (by omega)
theorem s_X5_spreadOf {d : Nat} {K : List Value → zS → Prop} {mm : zM} {k n : Nat} {w : Nat → Int} (hk : 108 ≤ k ∧ k ≤ 111) (hn : 4 ≤ n ∧ n ≤ 16) (hz : mm 98 4 = nI n) (hw : ∀ z, z < n → mm k z = zi (w z)) (hb : ∀ z, -100000 ≤ w z ∧ w z ≤ 100000) (hK : K [.int (zi (zSpr w n))] (zG mm))  : wm (d + 1) mX5_spreadOf [.ref 98, .ref k] (zG mm) K := by
  refine wm_of2 (L0 := [some (.ref 98), some (.ref k), none, none, none]) zCm_X5_spreadOf (Or.inl rfl) (Nat.le_of_ble_eq_true rfl) rfl ?_
  refine wx_aload_n (i := 1) dX5_spreadOf_0 rfl rfl ?_
  refine wx_iconst (v := 0) dX5_spreadOf_1 (by decide) ?_
  refine wx_ialdG (j := 0) dX5_spreadOf_2 (by obtain ⟨j, rfl⟩ : ∃ j, k = 107 + 1 + j := ⟨k - 108, by omega⟩; exact zKin_107 _ (by omega)) (by omega) rfl ?_ ?_
  · exact ⟨by omega, by decide⟩
  refine wx_istore_n (i := 2) dX5_spreadOf_3 rfl (Nat.le_of_ble_eq_true rfl) rfl ?_
  refine wx_aload_n (i := 1) dX5_spreadOf_4 rfl rfl ?_
  refine wx_iconst (v := 0) dX5_spreadOf_5 (by decide) ?_
  refine wx_ialdG (j := 0) dX5_spreadOf_6 (by obtain ⟨j, rfl⟩ : ∃ j, k = 107 + 1 + j := ⟨k - 108, by omega⟩; exact zKin_107 _ (by omega)) (by omega) rfl ?_ ?_
  · exact ⟨by omega, by decide⟩
  refine wx_istore_n (i := 3) dX5_spreadOf_7 rfl (Nat.le_of_ble_eq_true rfl) rfl ?_
  refine wx_iconst (v := 1) dX5_spreadOf_8 (by decide) ?_
  refine wx_istore dX5_spreadOf_9 (Nat.le_of_ble_eq_true rfl) rfl ?_
  rw [hw 0 (by omega)]
  have h := lp_spread (d := d) (K := K) hk hn hz hw hb hK (n - 1) 0 (by omega)
  rw [zMn_1, zMx_1] at h
  exact h
