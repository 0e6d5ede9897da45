/-! the tests and the wires of the class, as they are called -/
/-- the tests of the class are in order -/
def zKI (g : Nat → Nat → Int) (L : Int) (n : Nat) (mm : zM) : Prop := zOg g L n ∧ zCd g L n mm ∧ mm 7 0 = 0 ∧ (mm 2 11 = 0 ∨ zKs g L n mm)
/-- nothing but what the tests tell has changed -/
def zFk (mm m2 : zM) : Prop := ∀ c j, ¬ (7 ≤ c ∧ c ≤ 12) → ¬ (c = 2 ∧ 9 ≤ j) → m2 c j = mm c j
theorem zFk_refl (mm : zM) : zFk mm mm := fun _ _ _ _ => rfl
theorem zFk_trans {a b c : zM} (h : zFk a b) (g : zFk b c) : zFk a c := fun x j u v => (g x j u v).trans (h x j u v)
theorem zCd_fk {g : Nat → Nat → Int} {L : Int} {n : Nat} {mm m2 : zM} (h : zCd g L n mm) (f : zFk mm m2) : zCd g L n m2 := ⟨fun t i h1 h2 => by rw [f _ _ (by omega) (by omega)]; exact h.1 t i h1 h2, by rw [f 2 7 (by omega) (by omega)]; exact h.2.1, by rw [f 2 8 (by omega) (by omega)]; exact h.2.2⟩
theorem s_X3_settleI {d : Nat} {K : List Value → zS → Prop} {mm : zM} {g : Nat → Nat → Int} {L : Int} {n : Nat} (h : zKI g L n mm) (hK : ∀ m2 : zM, zFk mm m2 → zKI g L n m2 → zKs g L n m2 → K [] (zG m2)) : wm (d + 4) mX3_settle [.ref 2] (zG mm) K :=
  s_X3_settle h.1 h.2.1 h.2.2.1 h.2.2.2 (fun m2 f h0 hs => hK m2 f ⟨h.1, zCd_fk h.2.1 f, h0, Or.inr hs⟩ hs)
theorem zSh_1 (g : Nat → Nat → Int) (L : Int) (n : Nat) : zSh g L n 1 = (zBj g L n).2.2.1 := by unfold zSh; rw [if_pos rfl]
theorem zSh_2 (g : Nat → Nat → Int) (L : Int) (n : Nat) : zSh g L n 2 = (zBj g L n).2.2.2 := by unfold zSh; rw [if_neg (by decide), if_pos rfl]
theorem zNo_b {f : Nat → Int} {n k : Nat} {z : Nat} (hp : ∀ j, j < k → ¬ f j = 5000) (he : k = n ∨ f k = 5000) (hz : z ≤ n) : zNo f z = decide (k < z) := by
  by_cases q : k < z
  · rw [decide_eq_true q]
    rcases he with e | e
    · omega
    · exact zNo_t e q
  · rw [decide_eq_false q]
    exact zNo_f (fun j hj => hp j (by omega))
theorem s_X3_howManyDropped {d : Nat} {K : List Value → zS → Prop} {mm : zM} {g : Nat → Nat → Int} {L : Int} {n : Nat} (hI : zKI g L n mm) (hK : ∀ m2 : zM, zFk mm m2 → zKI g L n m2 → K [.int (zi (zT3 g 3 - zTs g n - (zBj g L n).1))] (zG m2))  : wm (d + 5) mX3_howManyDropped [.ref 2] (zG mm) K := by
  refine wm_of2 (L0 := [some (.ref 2)]) zCm_X3_howManyDropped (Or.inl rfl) (Nat.le_of_ble_eq_true rfl) rfl ?_
  refine wx_aload_n (i := 0) dX3_howManyDropped_0 rfl rfl ?_
  refine wx_V0 dX3_howManyDropped_1 zPV_X3_settle zLk_X3_56 rfl (Nat.le_of_ble_eq_true rfl) (Nat.le_of_ble_eq_true rfl) (Or.inr rfl) ?_
  refine s_X3_settleI hI (fun m2 hf hI2 hs => ?_)
  refine wx_r0 ?_
  refine wx_aload_n (i := 0) dX3_howManyDropped_4 rfl rfl ?_
  refine wx_getIG (k := 2) dX3_howManyDropped_5 zF_X3_59 zKo_2 rfl (Nat.le_of_ble_eq_true rfl) ?_
  refine wx_iret dX3_howManyDropped_8 rfl rfl (Or.inl rfl) ?_
  exact zki (hK m2 hf hI2) hs.2.2.1.symm
theorem s_X3_shiftOf {d : Nat} {K : List Value → zS → Prop} {mm : zM} {g : Nat → Nat → Int} {L : Int} {n : Nat} (hI : zKI g L n mm) {t : Nat} (ht : 1 ≤ t ∧ t ≤ 2) (hK : ∀ m2 : zM, zFk mm m2 → zKI g L n m2 → K [.int (zi (zSh g L n t))] (zG m2))  : wm (d + 5) mX3_shiftOf [.ref 2, .int (nI t)] (zG mm) K := by
  refine wm_of2 (L0 := [some (.ref 2), some (.int (nI t))]) zCm_X3_shiftOf (Or.inl rfl) (Nat.le_of_ble_eq_true rfl) rfl ?_
  refine wx_aload_n (i := 0) dX3_shiftOf_0 rfl rfl ?_
  refine wx_V0 dX3_shiftOf_1 zPV_X3_settle zLk_X3_56 rfl (Nat.le_of_ble_eq_true rfl) (Nat.le_of_ble_eq_true rfl) (Or.inr rfl) ?_
  refine s_X3_settleI hI (fun m2 hf hI2 hs => ?_)
  refine wx_r0 ?_
  refine wx_aload_n (i := 0) dX3_shiftOf_4 rfl rfl ?_
  refine wx_getRG (k := 2) (t := 7) dX3_shiftOf_5 zF_X3_16 zKo_2 rfl (Nat.le_of_ble_eq_true rfl) zRf_2_1 ?_
  refine wx_iload_n (i := 1) dX3_shiftOf_8 rfl rfl ?_
  refine wx_ialdG (k := 7) dX3_shiftOf_9 zK_7 (Nat.le_of_ble_eq_true rfl) rfl ?_ ?_
  · exact ⟨by omega, by decide⟩
  refine wx_iret dX3_shiftOf_10 rfl rfl (Or.inl rfl) ?_
  refine zki (hK m2 hf hI2) ?_
  rcases (by omega : t = 1 ∨ t = 2) with rfl | rfl
  · rw [zSh_1]; exact hs.1.1.symm
  · rw [zSh_2]; exact hs.1.2.symm
theorem s_X3_stepOf {d : Nat} {K : List Value → zS → Prop} {mm : zM} {g : Nat → Nat → Int} {L : Int} {n : Nat} (hI : zKI g L n mm) {i : Nat} (ht : i < n) (hK : ∀ m2 : zM, zFk mm m2 → zKI g L n m2 → K [.int (zi (zFd g L n i))] (zG m2))  : wm (d + 5) mX3_stepOf [.ref 2, .int (nI i)] (zG mm) K := by
  refine wm_of2 (L0 := [some (.ref 2), some (.int (nI i))]) zCm_X3_stepOf (Or.inl rfl) (Nat.le_of_ble_eq_true rfl) rfl ?_
  refine wx_aload_n (i := 0) dX3_stepOf_0 rfl rfl ?_
  refine wx_V0 dX3_stepOf_1 zPV_X3_settle zLk_X3_56 rfl (Nat.le_of_ble_eq_true rfl) (Nat.le_of_ble_eq_true rfl) (Or.inr rfl) ?_
  refine s_X3_settleI hI (fun m2 hf hI2 hs => ?_)
  refine wx_r0 ?_
  refine wx_aload_n (i := 0) dX3_stepOf_4 rfl rfl ?_
  refine wx_getRG (k := 2) (t := 8) dX3_stepOf_5 zF_X3_20 zKo_2 rfl (Nat.le_of_ble_eq_true rfl) zRf_2_2 ?_
  refine wx_iload_n (i := 1) dX3_stepOf_8 rfl rfl ?_
  refine wx_ialdG (k := 8) dX3_stepOf_9 zK_8 (Nat.le_of_ble_eq_true rfl) rfl ?_ ?_
  · exact ⟨by have := hI.1.2.2; omega, by decide⟩
  refine wx_iret dX3_stepOf_10 rfl rfl (Or.inl rfl) ?_
  exact zki (hK m2 hf hI2) (hs.2.1 i ht).symm
theorem s_X3_profileOf {d : Nat} {K : List Value → zS → Prop} {mm : zM} {g : Nat → Nat → Int} {L : Int} {n : Nat} (hI : zKI g L n mm) {z : Nat} (ht : z ≤ n) (hK : ∀ m2 : zM, zFk mm m2 → zKI g L n m2 → K [.int (zi (zPv (zFd g L n) z))] (zG m2))  : wm (d + 5) mX3_profileOf [.ref 2, .int (nI z)] (zG mm) K := by
  refine wm_of2 (L0 := [some (.ref 2), some (.int (nI z))]) zCm_X3_profileOf (Or.inl rfl) (Nat.le_of_ble_eq_true rfl) rfl ?_
  refine wx_aload_n (i := 0) dX3_profileOf_0 rfl rfl ?_
  refine wx_V0 dX3_profileOf_1 zPV_X3_settle zLk_X3_56 rfl (Nat.le_of_ble_eq_true rfl) (Nat.le_of_ble_eq_true rfl) (Or.inr rfl) ?_
  refine s_X3_settleI hI (fun m2 hf hI2 hs => ?_)
  obtain ⟨k, hp, he⟩ := hs.2.2.2
  have hn := hI.1.2.2
  have hk := hp.2.1
  refine wx_r0 ?_
  refine wx_iload_n (i := 1) dX3_profileOf_4 rfl rfl ?_
  refine wx_aload_n (i := 0) dX3_profileOf_5 rfl rfl ?_
  refine wx_getIG (k := 2) dX3_profileOf_6 zF_X3_62 zKo_2 rfl (Nat.le_of_ble_eq_true rfl) ?_
  refine wx_icmp_ge (tgt := 21) dX3_profileOf_9 (by decide) (fun h9 => ?_) (fun h9 => ?_)
  · rw [hp.2.2.1] at h9
    have h9 : k < z := Nat.not_le.mp (fun w => absurd h9 (nI_ge (by omega) (by omega)))
    have hw : (1000000 : Int32) = zi (zPv (zFd g L n) z) := by unfold zPv; rw [zNo_b hp.1 he ht, decide_eq_true h9]; rfl
    refine wx_ldc dX3_profileOf_21 zKc_X3_65 ?_
    refine wx_iret dX3_profileOf_23 rfl rfl (Or.inl rfl) ?_
    first | exact zki (hK m2 hf hI2) hw.symm | exact zki (hK m2 hf hI2) ((hp.2.2.2 z (by omega)).trans hw).symm
  · rw [hp.2.2.1] at h9
    have h9 : z ≤ k := Nat.not_lt.mp (fun w => h9 (nI_le w (by omega)))
    have hw : zi (zPd (zFd g L n) z) = zi (zPv (zFd g L n) z) := by unfold zPv; rw [zNo_b hp.1 he ht, decide_eq_false (by omega)]; rfl
    refine wx_aload_n (i := 0) dX3_profileOf_12 rfl rfl ?_
    refine wx_getRG (k := 2) (t := 9) dX3_profileOf_13 zF_X3_23 zKo_2 rfl (Nat.le_of_ble_eq_true rfl) zRf_2_3 ?_
    refine wx_iload_n (i := 1) dX3_profileOf_16 rfl rfl ?_
    refine wx_ialdG (k := 9) dX3_profileOf_17 zK_9 (Nat.le_of_ble_eq_true rfl) rfl ?_ ?_
    · exact ⟨by omega, by decide⟩
    refine wx_goto (tgt := 23) dX3_profileOf_18 (by decide) ?_
    refine wx_iret dX3_profileOf_23 rfl rfl (Or.inl rfl) ?_
    first | exact zki (hK m2 hf hI2) hw.symm | exact zki (hK m2 hf hI2) ((hp.2.2.2 z (by omega)).trans hw).symm
theorem s_X3_lieOf {d : Nat} {K : List Value → zS → Prop} {mm : zM} (hK : K [.int (mm 2 7)] (zG mm)) : wm (d) mX3_lieOf [.ref 2] (zG mm) K := by
  refine wm_of2 (L0 := [some (.ref 2)]) zCm_X3_lieOf (Or.inl rfl) (Nat.le_of_ble_eq_true rfl) rfl ?_
  refine wx_aload_n (i := 0) dX3_lieOf_0 rfl rfl ?_
  refine wx_getIG (k := 2) dX3_lieOf_1 zF_X3_35 zKo_2 rfl (Nat.le_of_ble_eq_true rfl) ?_
  refine wx_iret dX3_lieOf_4 rfl rfl (Or.inl rfl) ?_
  exact hK
theorem s_X3_tellLie {d : Nat} {K : List Value → zS → Prop} {mm : zM} {v : Int32} (hK : K [.int (mm 2 7)] (zG (zU (zU mm 2 7 v) 2 11 0))) : wm (d) mX3_tellLie [.ref 2, .int v] (zG mm) K := by
  refine wm_of2 (L0 := [some (.ref 2), some (.int v), none]) zCm_X3_tellLie (Or.inl rfl) (Nat.le_of_ble_eq_true rfl) rfl ?_
  refine wx_aload_n (i := 0) dX3_tellLie_0 rfl rfl ?_
  refine wx_getIG (k := 2) dX3_tellLie_1 zF_X3_35 zKo_2 rfl (Nat.le_of_ble_eq_true rfl) ?_
  refine wx_istore_n (i := 2) dX3_tellLie_4 rfl (Nat.le_of_ble_eq_true rfl) rfl ?_
  refine wx_aload_n (i := 0) dX3_tellLie_5 rfl rfl ?_
  refine wx_iload_n (i := 1) dX3_tellLie_6 rfl rfl ?_
  refine wx_putIG (k := 2) dX3_tellLie_7 zF_X3_35 zKo_2 rfl (Nat.le_of_ble_eq_true rfl) rfl rfl ?_
  refine wx_aload_n (i := 0) dX3_tellLie_10 rfl rfl ?_
  refine wx_iconst (v := 0) dX3_tellLie_11 (by decide) ?_
  refine wx_putIG (k := 2) dX3_tellLie_12 zF_X3_52 zKo_2 rfl (Nat.le_of_ble_eq_true rfl) rfl rfl ?_
  refine wx_iload_n (i := 2) dX3_tellLie_15 rfl rfl ?_
  refine wx_iret dX3_tellLie_16 rfl rfl (Or.inl rfl) ?_
  exact hK
theorem s_X3_tellReading {d : Nat} {K : List Value → zS → Prop} {mm : zM} {t i : Nat} {v : Int32} (ht : t < 3) (hi : i < 15) (hK : K [.int (mm (3 + 1 + t) i)] (zG (zU (zU mm (3 + 1 + t) i v) 2 11 0))) : wm (d) mX3_tellReading [.ref 2, .int (nI t), .int (nI i), .int v] (zG mm) K := by
  refine wm_of2 (L0 := [some (.ref 2), some (.int (nI t)), some (.int (nI i)), some (.int v), none]) zCm_X3_tellReading (Or.inl rfl) (Nat.le_of_ble_eq_true rfl) rfl ?_
  refine wx_aload_n (i := 0) dX3_tellReading_0 rfl rfl ?_
  refine wx_getRG (k := 2) (t := 3) dX3_tellReading_1 zF_X3_11 zKo_2 rfl (Nat.le_of_ble_eq_true rfl) zRf_2_0 ?_
  refine wx_iload_n (i := 1) dX3_tellReading_4 rfl rfl ?_
  refine wx_aaldG (k := 3) (j := t) dX3_tellReading_5 zK_3 (Nat.le_of_ble_eq_true rfl) rfl ?_ ?_
  · exact ⟨ht, by decide⟩
  refine wx_iload_n (i := 2) dX3_tellReading_6 rfl rfl ?_
  refine wx_ialdG dX3_tellReading_7 (zKin_3 _ (by omega)) (zKlt_3 _ (by omega)) rfl ?_ ?_
  · exact ⟨hi, by decide⟩
  refine wx_istore dX3_tellReading_8 (Nat.le_of_ble_eq_true rfl) rfl ?_
  refine wx_aload_n (i := 0) dX3_tellReading_10 rfl rfl ?_
  refine wx_getRG (k := 2) (t := 3) dX3_tellReading_11 zF_X3_11 zKo_2 rfl (Nat.le_of_ble_eq_true rfl) zRf_2_0 ?_
  refine wx_iload_n (i := 1) dX3_tellReading_14 rfl rfl ?_
  refine wx_aaldG (k := 3) (j := t) dX3_tellReading_15 zK_3 (Nat.le_of_ble_eq_true rfl) rfl ?_ ?_
  · exact ⟨ht, by decide⟩
  refine wx_iload_n (i := 2) dX3_tellReading_16 rfl rfl ?_
  refine wx_iload_n (i := 3) dX3_tellReading_17 rfl rfl ?_
  refine wx_iastG dX3_tellReading_18 (zKin_3 _ (by omega)) (zKlt_3 _ (by omega)) rfl ?_ ?_
  · exact ⟨hi, by decide⟩
  refine wx_aload_n (i := 0) dX3_tellReading_19 rfl rfl ?_
  refine wx_iconst (v := 0) dX3_tellReading_20 (by decide) ?_
  refine wx_putIG (k := 2) dX3_tellReading_21 zF_X3_52 zKo_2 rfl (Nat.le_of_ble_eq_true rfl) rfl rfl ?_
  refine wx_iload dX3_tellReading_24 rfl ?_
  refine wx_iret dX3_tellReading_26 rfl rfl (Or.inl rfl) ?_
  exact hK
theorem lp_beginC {d : Nat} {K : List Value → zS → Prop} {mm : zM} {rf : zR} (hr_2_0 : rf 2 0 = some 3) (hr_3 : ∀ i, i < 3 → rf 3 i = some (3 + 1 + i)) {v : Int32} (hK : ∀ m1 : zM, (∀ c j, ¬ (4 ≤ c ∧ c ≤ 6) → ¬ (c = 2 ∧ (j = 8 ∨ j = 11)) → m1 c j = mm c j) → m1 2 8 = v → m1 2 11 = 0 → (∀ t i, t < 3 → i < 15 → m1 (3 + 1 + t) i = 5000) → K [] (13, rf, m1))  : ∀ (c i : Nat) (m1 : zM) (y : Option Value), i + c = 3 → (∀ c j, ¬ (4 ≤ c ∧ c ≤ 6) → ¬ (c = 2 ∧ (j = 8 ∨ j = 11)) → m1 c j = mm c j) → (m1 2 8 = v) → (∀ t k, t < i → k < 15 → m1 (3 + 1 + t) k = 5000) → wx (d + 1) mX3_begin 16 [some (.ref 2), some (.int v), some (.ref 3), some (.int 3), some (.int (nI i)), y] [] (13, rf, m1) K := by
  intro c
  induction c with
  | zero =>
    intro i m1 y hi hf hv hg
    obtain rfl : i = 3 := by omega
    refine wx_iload dX3_begin_16 rfl ?_
    refine wx_iload_n (i := 3) dX3_begin_18 rfl rfl ?_
    refine wx_icmp_ge (tgt := 42) dX3_begin_19 (by decide) (fun h19 => ?_) (fun h19 => ?_)
    · skip
      refine wx_aload_n (i := 0) dX3_begin_42 rfl rfl ?_
      refine wx_iconst (v := 0) dX3_begin_43 (by decide) ?_
      refine wx_putI (k := 2) dX3_begin_44 zF_X3_52 zKo_2 rfl (Nat.le_of_ble_eq_true rfl) rfl rfl ?_
      refine wx_vret dX3_begin_47 rfl (Or.inl rfl) ?_
      refine hK _ (fun c j u1 u2 => ?_) ?_ (zU_same _ _ _ _) (fun t k u1 u2 => ?_)
      · rw [zU_off (fun w => u2 ⟨w.1, Or.inr w.2⟩)]; exact hf c j u1 u2
      · rw [zU_off (by decide)]; exact hv
      · rw [zU_ne (by omega)]; exact hg t k u1 u2
    · exact absurd (show nI 3 ≤ nI 3 from nI_le (by omega) (by omega)) h19 --end
  | succ c ih =>
    intro i m1 y hi hf hv hg
    refine wx_iload dX3_begin_16 rfl ?_
    refine wx_iload_n (i := 3) dX3_begin_18 rfl rfl ?_
    refine wx_icmp_ge (tgt := 42) dX3_begin_19 (by decide) (fun h19 => ?_) (fun h19 => ?_)
    · exact absurd (show nI 3 ≤ nI i from h19) (nI_ge (by omega) (by omega)) --end
    · skip
      refine wx_aload_n (i := 2) dX3_begin_22 rfl rfl ?_
      refine wx_iload dX3_begin_23 rfl ?_
      refine wx_aaldN (k := 3) (j := i) dX3_begin_25 zK_3 (Nat.le_of_ble_eq_true rfl) rfl ?_ ?_ ?_
      · exact ⟨by omega, by decide⟩
      · exact hr_3 i (by omega)
      refine wx_astore dX3_begin_26 (Nat.le_of_ble_eq_true rfl) rfl ?_
      refine wx_aload dX3_begin_28 rfl ?_
      refine wx_sipush (v := 5000) dX3_begin_30 (by decide) ?_
      refine wx_S2 dX3_begin_33 zPS_J7_fill_53178 zLk_X3_46 (Nat.le_of_ble_eq_true rfl) (Or.inr rfl) ?_
      refine s_J7_fill (n := 15) (zKin_3 _ (by omega)) (by omega) (by decide) ?_
      refine wx_r0 ?_
      refine wx_inc (c := 1) dX3_begin_36 rfl (by decide) (Nat.le_of_ble_eq_true rfl) rfl ?_
      refine wx_goto (tgt := 16) dX3_begin_39 (by decide) ?_
      rw [nI_1]
      refine ih (i + 1) _ _ (by omega) (fun c j u1 u2 => ?_) ?_ (fun t k u1 u2 => ?_)
      · show va_up m1 (3 + 1 + i) _ c j = _
        rw [show va_up m1 (3 + 1 + i) (fun k => if k < 15 then 5000 else m1 (3 + 1 + i) k) c = m1 c from if_neg (by omega)]
        exact hf c j u1 u2
      · show va_up m1 (3 + 1 + i) _ 2 8 = _
        rw [show va_up m1 (3 + 1 + i) (fun k => if k < 15 then 5000 else m1 (3 + 1 + i) k) 2 = m1 2 from if_neg (by omega)]
        exact hv
      · show va_up m1 (3 + 1 + i) _ (3 + 1 + t) k = _
        by_cases e : t = i
        · subst e
          rw [show va_up m1 (3 + 1 + t) (fun k => if k < 15 then 5000 else m1 (3 + 1 + t) k) (3 + 1 + t) = (fun k => if k < 15 then 5000 else m1 (3 + 1 + t) k) from if_pos rfl]
          exact if_pos u2
        · rw [show va_up m1 (3 + 1 + i) (fun k => if k < 15 then 5000 else m1 (3 + 1 + i) k) (3 + 1 + t) = m1 (3 + 1 + t) from if_neg (by omega)]
          exact hg t k (by omega) u2
theorem s_X3_beginC {d : Nat} {K : List Value → zS → Prop} {mm : zM} {rf : zR} (hr_2_0 : rf 2 0 = some 3) (hr_3 : ∀ i, i < 3 → rf 3 i = some (3 + 1 + i)) {v : Int32} (hK : ∀ m1 : zM, (∀ c j, ¬ (4 ≤ c ∧ c ≤ 6) → ¬ (c = 2 ∧ (j = 8 ∨ j = 11)) → m1 c j = mm c j) → m1 2 8 = v → m1 2 11 = 0 → (∀ t i, t < 3 → i < 15 → m1 (3 + 1 + t) i = 5000) → K [] (13, rf, m1))  : wm (d + 1) mX3_begin [.ref 2, .int v] (13, rf, mm) K := by
  refine wm_of2 (L0 := [some (.ref 2), some (.int v), none, none, none, none]) zCm_X3_begin (Or.inl rfl) (Nat.le_of_ble_eq_true rfl) rfl ?_
  refine wx_aload_n (i := 0) dX3_begin_0 rfl rfl ?_
  refine wx_iload_n (i := 1) dX3_begin_1 rfl rfl ?_
  refine wx_putI (k := 2) dX3_begin_2 zF_X3_43 zKo_2 rfl (Nat.le_of_ble_eq_true rfl) rfl rfl ?_
  refine wx_aload_n (i := 0) dX3_begin_5 rfl rfl ?_
  refine wx_getR (k := 2) (t := 3) dX3_begin_6 zF_X3_11 zKo_2 rfl (Nat.le_of_ble_eq_true rfl) hr_2_0 ?_
  refine wx_astore_n (i := 2) dX3_begin_9 rfl (Nat.le_of_ble_eq_true rfl) rfl ?_
  refine wx_aload_n (i := 2) dX3_begin_10 rfl rfl ?_
  refine wx_alenA (k := 3) dX3_begin_11 zK_3 (Nat.le_of_ble_eq_true rfl) ?_
  refine wx_istore_n (i := 3) dX3_begin_12 rfl (Nat.le_of_ble_eq_true rfl) rfl ?_
  refine wx_iconst (v := 0) dX3_begin_13 (by decide) ?_
  refine wx_istore dX3_begin_14 (Nat.le_of_ble_eq_true rfl) rfl ?_
  exact lp_beginC hr_2_0 hr_3 hK 3 0 _ _ (by omega) (fun c j u1 u2 => zU_off (fun w => u2 ⟨w.1, Or.inl w.2⟩)) (zU_same _ _ _ _) (fun t k u1 _ => absurd u1 (Nat.not_lt_zero t))
theorem lp_begin {d : Nat} {K : List Value → zS → Prop} {mm : zM} {rf : zR} (hr_2_0 : rf 2 0 = some 3) (hr_3 : ∀ i, i < 3 → rf 3 i = some (3 + 1 + i)) {v : Int32} (hK : ∀ m1 : zM, (∀ c j, ¬ (4 ≤ c ∧ c ≤ 6) → ¬ (c = 2 ∧ (j = 8 ∨ j = 11)) → m1 c j = mm c j) → m1 2 8 = v → m1 2 11 = 0 → (∀ t i, t < 3 → i < 15 → m1 (3 + 1 + t) i = 5000) → K [] (154, rf, m1))  : ∀ (c i : Nat) (m1 : zM) (y : Option Value), i + c = 3 → (∀ c j, ¬ (4 ≤ c ∧ c ≤ 6) → ¬ (c = 2 ∧ (j = 8 ∨ j = 11)) → m1 c j = mm c j) → (m1 2 8 = v) → (∀ t k, t < i → k < 15 → m1 (3 + 1 + t) k = 5000) → wx (d + 1) mX3_begin 16 [some (.ref 2), some (.int v), some (.ref 3), some (.int 3), some (.int (nI i)), y] [] (154, rf, m1) K := by
  intro c
  induction c with
  | zero =>
    intro i m1 y hi hf hv hg
    obtain rfl : i = 3 := by omega
    refine wx_iload dX3_begin_16 rfl ?_
    refine wx_iload_n (i := 3) dX3_begin_18 rfl rfl ?_
    refine wx_icmp_ge (tgt := 42) dX3_begin_19 (by decide) (fun h19 => ?_) (fun h19 => ?_)
    · skip
      refine wx_aload_n (i := 0) dX3_begin_42 rfl rfl ?_
      refine wx_iconst (v := 0) dX3_begin_43 (by decide) ?_
      refine wx_putI (k := 2) dX3_begin_44 zF_X3_52 zKo_2 rfl (Nat.le_of_ble_eq_true rfl) rfl rfl ?_
      refine wx_vret dX3_begin_47 rfl (Or.inl rfl) ?_
      refine hK _ (fun c j u1 u2 => ?_) ?_ (zU_same _ _ _ _) (fun t k u1 u2 => ?_)
      · rw [zU_off (fun w => u2 ⟨w.1, Or.inr w.2⟩)]; exact hf c j u1 u2
      · rw [zU_off (by decide)]; exact hv
      · rw [zU_ne (by omega)]; exact hg t k u1 u2
    · exact absurd (show nI 3 ≤ nI 3 from nI_le (by omega) (by omega)) h19 --end
  | succ c ih =>
    intro i m1 y hi hf hv hg
    refine wx_iload dX3_begin_16 rfl ?_
    refine wx_iload_n (i := 3) dX3_begin_18 rfl rfl ?_
    refine wx_icmp_ge (tgt := 42) dX3_begin_19 (by decide) (fun h19 => ?_) (fun h19 => ?_)
    · exact absurd (show nI 3 ≤ nI i from h19) (nI_ge (by omega) (by omega)) --end
    · skip
      refine wx_aload_n (i := 2) dX3_begin_22 rfl rfl ?_
      refine wx_iload dX3_begin_23 rfl ?_
      refine wx_aaldN (k := 3) (j := i) dX3_begin_25 zK_3 (Nat.le_of_ble_eq_true rfl) rfl ?_ ?_ ?_
      · exact ⟨by omega, by decide⟩
      · exact hr_3 i (by omega)
      refine wx_astore dX3_begin_26 (Nat.le_of_ble_eq_true rfl) rfl ?_
      refine wx_aload dX3_begin_28 rfl ?_
      refine wx_sipush (v := 5000) dX3_begin_30 (by decide) ?_
      refine wx_S2 dX3_begin_33 zPS_J7_fill_53178 zLk_X3_46 (Nat.le_of_ble_eq_true rfl) (Or.inr rfl) ?_
      refine s_J7_fill (n := 15) (zKin_3 _ (by omega)) (by omega) (by decide) ?_
      refine wx_r0 ?_
      refine wx_inc (c := 1) dX3_begin_36 rfl (by decide) (Nat.le_of_ble_eq_true rfl) rfl ?_
      refine wx_goto (tgt := 16) dX3_begin_39 (by decide) ?_
      rw [nI_1]
      refine ih (i + 1) _ _ (by omega) (fun c j u1 u2 => ?_) ?_ (fun t k u1 u2 => ?_)
      · show va_up m1 (3 + 1 + i) _ c j = _
        rw [show va_up m1 (3 + 1 + i) (fun k => if k < 15 then 5000 else m1 (3 + 1 + i) k) c = m1 c from if_neg (by omega)]
        exact hf c j u1 u2
      · show va_up m1 (3 + 1 + i) _ 2 8 = _
        rw [show va_up m1 (3 + 1 + i) (fun k => if k < 15 then 5000 else m1 (3 + 1 + i) k) 2 = m1 2 from if_neg (by omega)]
        exact hv
      · show va_up m1 (3 + 1 + i) _ (3 + 1 + t) k = _
        by_cases e : t = i
        · subst e
          rw [show va_up m1 (3 + 1 + t) (fun k => if k < 15 then 5000 else m1 (3 + 1 + t) k) (3 + 1 + t) = (fun k => if k < 15 then 5000 else m1 (3 + 1 + t) k) from if_pos rfl]
          exact if_pos u2
        · rw [show va_up m1 (3 + 1 + i) (fun k => if k < 15 then 5000 else m1 (3 + 1 + i) k) (3 + 1 + t) = m1 (3 + 1 + t) from if_neg (by omega)]
          exact hg t k (by omega) u2
theorem s_X3_begin {d : Nat} {K : List Value → zS → Prop} {mm : zM} {rf : zR} (hr_2_0 : rf 2 0 = some 3) (hr_3 : ∀ i, i < 3 → rf 3 i = some (3 + 1 + i)) {v : Int32} (hK : ∀ m1 : zM, (∀ c j, ¬ (4 ≤ c ∧ c ≤ 6) → ¬ (c = 2 ∧ (j = 8 ∨ j = 11)) → m1 c j = mm c j) → m1 2 8 = v → m1 2 11 = 0 → (∀ t i, t < 3 → i < 15 → m1 (3 + 1 + t) i = 5000) → K [] (154, rf, m1))  : wm (d + 1) mX3_begin [.ref 2, .int v] (154, rf, mm) K := by
  refine wm_of2 (L0 := [some (.ref 2), some (.int v), none, none, none, none]) zCm_X3_begin (Or.inl rfl) (Nat.le_of_ble_eq_true rfl) rfl ?_
  refine wx_aload_n (i := 0) dX3_begin_0 rfl rfl ?_
  refine wx_iload_n (i := 1) dX3_begin_1 rfl rfl ?_
  refine wx_putI (k := 2) dX3_begin_2 zF_X3_43 zKo_2 rfl (Nat.le_of_ble_eq_true rfl) rfl rfl ?_
  refine wx_aload_n (i := 0) dX3_begin_5 rfl rfl ?_
  refine wx_getR (k := 2) (t := 3) dX3_begin_6 zF_X3_11 zKo_2 rfl (Nat.le_of_ble_eq_true rfl) hr_2_0 ?_
  refine wx_astore_n (i := 2) dX3_begin_9 rfl (Nat.le_of_ble_eq_true rfl) rfl ?_
  refine wx_aload_n (i := 2) dX3_begin_10 rfl rfl ?_
  refine wx_alenA (k := 3) dX3_begin_11 zK_3 (Nat.le_of_ble_eq_true rfl) ?_
  refine wx_istore_n (i := 3) dX3_begin_12 rfl (Nat.le_of_ble_eq_true rfl) rfl ?_
  refine wx_iconst (v := 0) dX3_begin_13 (by decide) ?_
  refine wx_istore dX3_begin_14 (Nat.le_of_ble_eq_true rfl) rfl ?_
  exact lp_begin hr_2_0 hr_3 hK 3 0 _ _ (by omega) (fun c j u1 u2 => zU_off (fun w => u2 ⟨w.1, Or.inl w.2⟩)) (zU_same _ _ _ _) (fun t k u1 _ => absurd u1 (Nat.not_lt_zero t))
