/-! begins, replay, count of the reference -/
theorem lp_b3 {d : Nat} {K : List Value → zS → Prop} {mm : zM} {rf : zR} (hr_128_1 : rf 128 1 = some 129) (hr_128_2 : rf 128 2 = some 130) (hr_128_6 : rf 128 6 = some 131) (hr_128_19 : rf 128 19 = some 140) {x : Int32} (hK : wx d mX9_begins 77 [some (.ref 128), some (.int x), none] [] (154, rf, zFl mm 140 112 0) K) : ∀ c i : Nat, i + c = 112 → wx (d) mX9_begins 58 [some (.ref 128), some (.int x), some (.int (nI i))] [] (154, rf, zFl mm 140 i 0) K := by
  intro c
  induction c with
  | zero =>
    intro i hi 
    refine wx_iload_n (i := 2) dX9_begins_58 rfl rfl ?_
    refine wx_bipush (v := 112) dX9_begins_59 (by decide) ?_
    refine wx_icmp_ge (tgt := 77) dX9_begins_61 (by decide) (fun h61 => ?_) (fun h61 => ?_)
    · skip
      have hin : i = 112 := by omega
      subst hin
      refine wx_weak 2 ?_
      exact hK
    · exact absurd (show nI 112 ≤ nI i from nI_le (by omega) (by omega)) h61 --end
  | succ c ih =>
    intro i hi 
    refine wx_iload_n (i := 2) dX9_begins_58 rfl rfl ?_
    refine wx_bipush (v := 112) dX9_begins_59 (by decide) ?_
    refine wx_icmp_ge (tgt := 77) dX9_begins_61 (by decide) (fun h61 => ?_) (fun h61 => ?_)
    · exact absurd (show nI 112 ≤ nI i from h61) (nI_ge (by omega) (by omega)) --end
    · skip
      refine wx_aload_n (i := 0) dX9_begins_64 rfl rfl ?_
      refine wx_getR (k := 128) (t := 140) dX9_begins_65 zF_X9_62 zKo_128 rfl (Nat.le_of_ble_eq_true rfl) hr_128_19 ?_
      refine wx_iload_n (i := 2) dX9_begins_68 rfl rfl ?_
      refine wx_iconst (v := 0) dX9_begins_69 (by decide) ?_
      refine wx_iastN (k := 140) dX9_begins_70 zK_140 (Nat.le_of_ble_eq_true rfl) rfl ?_ ?_
      · exact ⟨by omega, by decide⟩
      refine wx_inc (c := 1) dX9_begins_71 rfl (by decide) (Nat.le_of_ble_eq_true rfl) rfl ?_
      refine wx_goto (tgt := 58) dX9_begins_74 (by decide) ?_
      rw [nI_1]
      have e := ih (i + 1) (by omega)
      rw [← zFl_succ mm 140 i 0] at e
      exact e
theorem lp_b2 {d : Nat} {K : List Value → zS → Prop} {mm : zM} {rf : zR} (hr_128_1 : rf 128 1 = some 129) (hr_128_2 : rf 128 2 = some 130) (hr_128_6 : rf 128 6 = some 131) (hr_128_19 : rf 128 19 = some 140) {x : Int32} (hK : wx d mX9_begins 56 [some (.ref 128), some (.int x), none] [] (154, rf, zFl mm 131 45 5000) K) : ∀ c i : Nat, i + c = 45 → wx (d) mX9_begins 35 [some (.ref 128), some (.int x), some (.int (nI i))] [] (154, rf, zFl mm 131 i 5000) K := by
  intro c
  induction c with
  | zero =>
    intro i hi 
    refine wx_iload_n (i := 2) dX9_begins_35 rfl rfl ?_
    refine wx_bipush (v := 45) dX9_begins_36 (by decide) ?_
    refine wx_icmp_ge (tgt := 56) dX9_begins_38 (by decide) (fun h38 => ?_) (fun h38 => ?_)
    · skip
      have hin : i = 45 := by omega
      subst hin
      refine wx_weak 2 ?_
      exact hK
    · exact absurd (show nI 45 ≤ nI i from nI_le (by omega) (by omega)) h38 --end
  | succ c ih =>
    intro i hi 
    refine wx_iload_n (i := 2) dX9_begins_35 rfl rfl ?_
    refine wx_bipush (v := 45) dX9_begins_36 (by decide) ?_
    refine wx_icmp_ge (tgt := 56) dX9_begins_38 (by decide) (fun h38 => ?_) (fun h38 => ?_)
    · exact absurd (show nI 45 ≤ nI i from h38) (nI_ge (by omega) (by omega)) --end
    · skip
      refine wx_aload_n (i := 0) dX9_begins_41 rfl rfl ?_
      refine wx_getR (k := 128) (t := 131) dX9_begins_42 zF_X9_29 zKo_128 rfl (Nat.le_of_ble_eq_true rfl) hr_128_6 ?_
      refine wx_iload_n (i := 2) dX9_begins_45 rfl rfl ?_
      refine wx_sipush (v := 5000) dX9_begins_46 (by decide) ?_
      refine wx_iastN (k := 131) dX9_begins_49 zK_131 (Nat.le_of_ble_eq_true rfl) rfl ?_ ?_
      · exact ⟨by omega, by decide⟩
      refine wx_inc (c := 1) dX9_begins_50 rfl (by decide) (Nat.le_of_ble_eq_true rfl) rfl ?_
      refine wx_goto (tgt := 35) dX9_begins_53 (by decide) ?_
      rw [nI_1]
      have e := ih (i + 1) (by omega)
      rw [← zFl_succ mm 131 i 5000] at e
      exact e
theorem lp_b1 {d : Nat} {K : List Value → zS → Prop} {mm : zM} {rf : zR} (hr_128_1 : rf 128 1 = some 129) (hr_128_2 : rf 128 2 = some 130) (hr_128_6 : rf 128 6 = some 131) (hr_128_19 : rf 128 19 = some 140) {x : Int32} (hK : wx d mX9_begins 33 [some (.ref 128), some (.int x), none] [] (154, rf, zFl (zFl mm 129 16 0) 130 16 0) K) : ∀ c i : Nat, i + c = 16 → wx (d) mX9_begins 7 [some (.ref 128), some (.int x), some (.int (nI i))] [] (154, rf, zFl (zFl mm 129 i 0) 130 i 0) K := by
  intro c
  induction c with
  | zero =>
    intro i hi 
    refine wx_iload_n (i := 2) dX9_begins_7 rfl rfl ?_
    refine wx_bipush (v := 16) dX9_begins_8 (by decide) ?_
    refine wx_icmp_ge (tgt := 33) dX9_begins_10 (by decide) (fun h10 => ?_) (fun h10 => ?_)
    · skip
      have hin : i = 16 := by omega
      subst hin
      refine wx_weak 2 ?_
      exact hK
    · exact absurd (show nI 16 ≤ nI i from nI_le (by omega) (by omega)) h10 --end
  | succ c ih =>
    intro i hi 
    refine wx_iload_n (i := 2) dX9_begins_7 rfl rfl ?_
    refine wx_bipush (v := 16) dX9_begins_8 (by decide) ?_
    refine wx_icmp_ge (tgt := 33) dX9_begins_10 (by decide) (fun h10 => ?_) (fun h10 => ?_)
    · exact absurd (show nI 16 ≤ nI i from h10) (nI_ge (by omega) (by omega)) --end
    · skip
      refine wx_aload_n (i := 0) dX9_begins_13 rfl rfl ?_
      refine wx_getR (k := 128) (t := 129) dX9_begins_14 zF_X9_13 zKo_128 rfl (Nat.le_of_ble_eq_true rfl) hr_128_1 ?_
      refine wx_iload_n (i := 2) dX9_begins_17 rfl rfl ?_
      refine wx_iconst (v := 0) dX9_begins_18 (by decide) ?_
      refine wx_iastN (k := 129) dX9_begins_19 zK_129 (Nat.le_of_ble_eq_true rfl) rfl ?_ ?_
      · exact ⟨by omega, by decide⟩
      refine wx_aload_n (i := 0) dX9_begins_20 rfl rfl ?_
      refine wx_getR (k := 128) (t := 130) dX9_begins_21 zF_X9_17 zKo_128 rfl (Nat.le_of_ble_eq_true rfl) hr_128_2 ?_
      refine wx_iload_n (i := 2) dX9_begins_24 rfl rfl ?_
      refine wx_iconst (v := 0) dX9_begins_25 (by decide) ?_
      refine wx_iastN (k := 130) dX9_begins_26 zK_130 (Nat.le_of_ble_eq_true rfl) rfl ?_ ?_
      · exact ⟨by omega, by decide⟩
      refine wx_inc (c := 1) dX9_begins_27 rfl (by decide) (Nat.le_of_ble_eq_true rfl) rfl ?_
      refine wx_goto (tgt := 7) dX9_begins_30 (by decide) ?_
      rw [nI_1]
      have e := ih (i + 1) (by omega)
      have e2 : zU (zU (zFl (zFl mm 129 i 0) 130 i 0) 129 i 0) 130 i 0 = zFl (zFl mm 129 (i + 1) 0) 130 (i + 1) 0 := by
        rw [← zFl_succ (zFl mm 129 (i + 1) 0) 130 i 0, ← zFl_succ mm 129 i 0]
        congr 1
        funext a
        by_cases h : a = 129
        · subst h; simp [zU, zFl, va_up]
        · by_cases g : a = 130
          · subst g; simp [zU, zFl, va_up]
          · simp [zU, zFl, va_up, h, g]
      rw [← e2] at e
      exact e
/-- the reference's cells behind begins(v) -/
def zBg (mm : zM) (v : Int32) : zM := zU (zU (zFl (zFl (zFl (zFl (zU mm 128 0 v) 129 16 0) 130 16 0) 131 45 5000) 140 112 0) 128 8 0) 128 14 0
theorem s_X9_begins {d : Nat} {K : List Value → zS → Prop} {mm : zM} {rf : zR} (hr_128_1 : rf 128 1 = some 129) (hr_128_2 : rf 128 2 = some 130) (hr_128_6 : rf 128 6 = some 131) (hr_128_19 : rf 128 19 = some 140) {v : Int32} (hK : K [] (154, rf, zBg mm v)) : wm d mX9_begins [.ref 128, .int v] (154, rf, mm) K := by
  refine wm_of2 (L0 := [some (.ref 128), some (.int v), none]) zCm_X9_begins (Or.inl rfl) (Nat.le_of_ble_eq_true rfl) rfl ?_
  refine wx_aload_n (i := 0) dX9_begins_0 rfl rfl ?_
  refine wx_iload_n (i := 1) dX9_begins_1 rfl rfl ?_
  refine wx_putI (k := 128) dX9_begins_2 zF_X9_7 zKo_128 rfl (Nat.le_of_ble_eq_true rfl) rfl rfl ?_
  refine wx_iconst (v := 0) dX9_begins_5 (by decide) ?_
  refine wx_istore_n (i := 2) dX9_begins_6 rfl (Nat.le_of_ble_eq_true rfl) rfl ?_
  have hz1 : (154, rf, zFl (zFl (zU mm 128 0 v) 129 0 0) 130 0 0) = ((154, rf, zU mm 128 0 v) : zS) := by rw [zFl_0, zFl_0]
  have h := lp_b1 (d := d) (K := K) (mm := zU mm 128 0 v) (x := v) hr_128_1 hr_128_2 hr_128_6 hr_128_19 ?_ 16 0 (by omega)
  rw [hz1] at h
  exact h
  refine wx_iconst (v := 0) dX9_begins_33 (by decide) ?_
  refine wx_istore_n (i := 2) dX9_begins_34 rfl (Nat.le_of_ble_eq_true rfl) rfl ?_
  have hz1 : (154, rf, zFl (zFl (zFl (zU mm 128 0 v) 129 16 0) 130 16 0) 131 0 5000) = ((154, rf, zFl (zFl (zU mm 128 0 v) 129 16 0) 130 16 0) : zS) := by rw [zFl_0]
  have h := lp_b2 (d := d) (K := K) (mm := zFl (zFl (zU mm 128 0 v) 129 16 0) 130 16 0) (x := v) hr_128_1 hr_128_2 hr_128_6 hr_128_19 ?_ 45 0 (by omega)
  rw [hz1] at h
  exact h
  refine wx_iconst (v := 0) dX9_begins_56 (by decide) ?_
  refine wx_istore_n (i := 2) dX9_begins_57 rfl (Nat.le_of_ble_eq_true rfl) rfl ?_
  have hz1 : (154, rf, zFl (zFl (zFl (zFl (zU mm 128 0 v) 129 16 0) 130 16 0) 131 45 5000) 140 0 0) = ((154, rf, zFl (zFl (zFl (zU mm 128 0 v) 129 16 0) 130 16 0) 131 45 5000) : zS) := by rw [zFl_0]
  have h := lp_b3 (d := d) (K := K) (mm := zFl (zFl (zFl (zU mm 128 0 v) 129 16 0) 130 16 0) 131 45 5000) (x := v) hr_128_1 hr_128_2 hr_128_6 hr_128_19 ?_ 112 0 (by omega)
  rw [hz1] at h
  exact h
  refine wx_aload_n (i := 0) dX9_begins_77 rfl rfl ?_
  refine wx_iconst (v := 0) dX9_begins_78 (by decide) ?_
  refine wx_putI (k := 128) dX9_begins_79 zF_X9_110 zKo_128 rfl (Nat.le_of_ble_eq_true rfl) rfl rfl ?_
  refine wx_aload_n (i := 0) dX9_begins_82 rfl rfl ?_
  refine wx_iconst (v := 0) dX9_begins_83 (by decide) ?_
  refine wx_putI (k := 128) dX9_begins_84 zF_X9_113 zKo_128 rfl (Nat.le_of_ble_eq_true rfl) rfl rfl ?_
  refine wx_vret dX9_begins_87 rfl (Or.inl rfl) ?_
  exact hK
theorem s_X9_beginsG {d : Nat} {K : List Value → zS → Prop} {mm : zM} {v : Int32} (hK : K [] (zG (zBg mm v))) : wm d mX9_begins [.ref 128, .int v] (zG mm) K := s_X9_begins zRf_128_1 zRf_128_2 zRf_128_6 zRf_128_19 hK
theorem s_X9_disc_bad {d : Nat} {K : List Value → zS → Prop} {mm : zM} {a : Int32} (hb : ¬ ((4 ≤ a ∧ a ≤ 16))) (hK : K [.int (-1)] (zG mm)) : wm (d + 1) mX9_disc [.ref 128, .int a] (zG mm) K := by
  refine wm_of2 (L0 := [some (.ref 128), some (.int a)]) zCm_X9_disc (Or.inl rfl) (Nat.le_of_ble_eq_true rfl) rfl ?_
  refine wx_iload_n (i := 1) dX9_disc_0 rfl rfl ?_
  refine wx_iconst (v := 4) dX9_disc_1 (by decide) ?_
  refine wx_bipush (v := 16) dX9_disc_2 (by decide) ?_
  refine wx_S3 dX9_disc_4 zPS_X9_in zLk_X9_116 (Nat.le_of_ble_eq_true rfl) (Or.inr rfl) ?_
  refine s_X9_in _ _ _ ?_
  refine wx_r1 ?_
  refine wx_neb (tgt := 12) dX9_disc_7 (by decide) (fun h7 => ?_) (fun h7 => ?_)
  · skip
    exact (hb (by assumption)).elim
  · skip
    refine wx_iconst (v := (-1)) dX9_disc_10 (by decide) ?_
    refine wx_iret dX9_disc_11 rfl rfl (Or.inl rfl) ?_
    exact hK
theorem s_X9_disc_ok {d : Nat} {K : List Value → zS → Prop} {mm : zM} {a : Int32} (k1 : 4 ≤ a ∧ a ≤ 16) (hK : K [.int a] (zG (zBg mm a))) : wm (d + 1) mX9_disc [.ref 128, .int a] (zG mm) K := by
  refine wm_of2 (L0 := [some (.ref 128), some (.int a)]) zCm_X9_disc (Or.inl rfl) (Nat.le_of_ble_eq_true rfl) rfl ?_
  refine wx_iload_n (i := 1) dX9_disc_0 rfl rfl ?_
  refine wx_iconst (v := 4) dX9_disc_1 (by decide) ?_
  refine wx_bipush (v := 16) dX9_disc_2 (by decide) ?_
  refine wx_S3 dX9_disc_4 zPS_X9_in zLk_X9_116 (Nat.le_of_ble_eq_true rfl) (Or.inr rfl) ?_
  refine s_X9_in _ _ _ ?_
  refine wx_r1 ?_
  refine wx_neb (tgt := 12) dX9_disc_7 (by decide) (fun h7 => ?_) (fun h7 => ?_)
  · skip
    refine wx_aload_n (i := 0) dX9_disc_12 rfl rfl ?_
    refine wx_iload_n (i := 1) dX9_disc_13 rfl rfl ?_
    refine wx_V1 dX9_disc_14 zPV_X9_begins zLk_X9_106 rfl (Nat.le_of_ble_eq_true rfl) (Nat.le_of_ble_eq_true rfl) (Or.inr rfl) ?_
    refine s_X9_beginsG ?_
    refine wx_r0 ?_
    refine wx_aload_n (i := 0) dX9_disc_17 rfl rfl ?_
    refine wx_getIG (k := 128) dX9_disc_18 zF_X9_7 zKo_128 rfl (Nat.le_of_ble_eq_true rfl) ?_
    refine wx_iret dX9_disc_21 rfl rfl (Or.inl rfl) ?_
    exact hK
  · contradiction --end
/-- a zone's height when the first i strokes of the reference are done on h -/
def zReM (mm : zM) (z : Nat) (h : Int32) : Nat → Int32
  | 0 => h
  | i + 1 => zReM mm z h i - (if -2 ≤ (z : Int) - (mm 137 i).toInt ∧ (z : Int) - (mm 137 i).toInt ≤ 2 then mm 138 i * mm 135 (5 * (mm 136 i).toNatClampNeg + ((z : Int) - (mm 137 i).toInt + 2).toNat) else 0)
theorem lp_replayM {d : Nat} {K : List Value → zS → Prop} {mm : zM} {z k q : Nat} (hz : z < 16) (hk : k ≤ q) (hq : q ≤ 60) (ht : ∀ j, j < q → ∃ t, t < 3 ∧ mm 136 j = nI t) (hzz : ∀ j, j < q → ∃ w, w < 16 ∧ mm 137 j = nI w) (hK : K [.int (zReM mm z (mm 130 z) k)] (zG mm)) : ∀ c i : Nat, i + c = k → wx (d + 2) mX9_replay 33 [some (.ref 128), some (.int (nI z)), some (.int (nI k)), some (.int (zReM mm z (mm 130 z) i)), some (.int (nI i)), none] [] (zG mm) K := by
  intro c
  induction c with
  | zero =>
    intro i hi
    have hin : i = k := by omega
    subst hin
    refine wx_iload dX9_replay_33 rfl ?_
    refine wx_iload_n (i := 2) dX9_replay_35 rfl rfl ?_
    refine wx_icmp_ge (tgt := 95) dX9_replay_36 (by decide) (fun h36 => ?_) (fun h36 => ?_)
    · skip
      refine wx_iload_n (i := 3) dX9_replay_95 rfl rfl ?_
      refine wx_iret dX9_replay_96 rfl rfl (Or.inl rfl) ?_
      exact hK
    · exact absurd (nI_le (Nat.le_refl _) (by omega)) h36 --end
  | succ c ih =>
    intro i hi
    obtain ⟨t, htt, et⟩ := ht i (by omega)
    obtain ⟨w, hww, ew⟩ := hzz i (by omega)
    have h0 := ih (i + 1) (by omega)
    have e0 : zReM mm z (mm 130 z) (i + 1) = zReM mm z (mm 130 z) i - (if -2 ≤ (z : Int) - (w : Int) ∧ (z : Int) - (w : Int) ≤ 2 then mm 138 i * mm 135 (5 * t + ((z : Int) - (w : Int) + 2).toNat) else 0) := by
      show _ - (if -2 ≤ (z : Int) - (mm 137 i).toInt ∧ (z : Int) - (mm 137 i).toInt ≤ 2 then mm 138 i * mm 135 (5 * (mm 136 i).toNatClampNeg + ((z : Int) - (mm 137 i).toInt + 2).toNat) else 0) = _
      rw [et, ew, nI_clamp (by omega), nI_toInt (by omega)]
    rw [e0] at h0
    refine wx_iload dX9_replay_33 rfl ?_
    refine wx_iload_n (i := 2) dX9_replay_35 rfl rfl ?_
    refine wx_icmp_ge (tgt := 95) dX9_replay_36 (by decide) (fun h36 => ?_) (fun h36 => ?_)
    · exact absurd h36 (nI_ge (by omega) (by omega)) --end
    · skip
      refine wx_iload_n (i := 1) dX9_replay_39 rfl rfl ?_
      refine wx_aload_n (i := 0) dX9_replay_40 rfl rfl ?_
      refine wx_getRG (k := 128) (t := 137) dX9_replay_41 zF_X9_53 zKo_128 rfl (Nat.le_of_ble_eq_true rfl) zRf_128_16 ?_
      refine wx_iload dX9_replay_44 rfl ?_
      refine wx_ialdG (k := 137) dX9_replay_46 zK_137 (Nat.le_of_ble_eq_true rfl) rfl ?_ ?_
      · exact ⟨by omega, by decide⟩
      refine wx_isub dX9_replay_47 ?_
      refine wx_istore dX9_replay_48 (Nat.le_of_ble_eq_true rfl) rfl ?_
      refine wx_iload_n (i := 3) dX9_replay_50 rfl rfl ?_
      refine wx_iload dX9_replay_51 rfl ?_
      refine wx_bipush (v := (-2)) dX9_replay_53 (by decide) ?_
      refine wx_iconst (v := 2) dX9_replay_55 (by decide) ?_
      refine wx_S3 dX9_replay_56 zPS_X9_in zLk_X9_116 (Nat.le_of_ble_eq_true rfl) (Or.inr rfl) ?_
      refine s_X9_in _ _ _ ?_
      refine wx_r1 ?_
      refine wx_eqb (tgt := 86) dX9_replay_59 (by decide) (fun h59 => ?_) (fun h59 => ?_)
      · rw [ew, zi_nI, zi_nI, zi_sub, zm_2, zl_2, zi_le (by omega) (by omega), zi_le (by omega) (by omega)] at h59
        refine wx_iconst (v := 0) dX9_replay_86 (by decide) ?_
        refine wx_isub dX9_replay_87 ?_
        refine wx_istore_n (i := 3) dX9_replay_88 rfl (Nat.le_of_ble_eq_true rfl) rfl ?_
        refine wx_inc (c := 1) dX9_replay_89 rfl (by decide) (Nat.le_of_ble_eq_true rfl) rfl ?_
        refine wx_goto (tgt := 33) dX9_replay_92 (by decide) ?_
        refine wx_weak 5 ?_
        rw [nI_1]
        first
          | (rw [if_pos h59] at h0; exact h0)
          | (rw [if_neg h59] at h0; exact h0)
      · rw [ew, zi_nI, zi_nI, zi_sub, zm_2, zl_2, zi_le (by omega) (by omega), zi_le (by omega) (by omega)] at h59
        refine wx_aload_n (i := 0) dX9_replay_62 rfl rfl ?_
        refine wx_getRG (k := 128) (t := 138) dX9_replay_63 zF_X9_56 zKo_128 rfl (Nat.le_of_ble_eq_true rfl) zRf_128_17 ?_
        refine wx_iload dX9_replay_66 rfl ?_
        refine wx_ialdG (k := 138) dX9_replay_68 zK_138 (Nat.le_of_ble_eq_true rfl) rfl ?_ ?_
        · exact ⟨by omega, by decide⟩
        refine wx_aload_n (i := 0) dX9_replay_69 rfl rfl ?_
        refine wx_aload_n (i := 0) dX9_replay_70 rfl rfl ?_
        refine wx_getRG (k := 128) (t := 136) dX9_replay_71 zF_X9_50 zKo_128 rfl (Nat.le_of_ble_eq_true rfl) zRf_128_15 ?_
        refine wx_iload dX9_replay_74 rfl ?_
        refine wx_ialdG (k := 136) dX9_replay_76 zK_136 (Nat.le_of_ble_eq_true rfl) rfl ?_ ?_
        · exact ⟨by omega, by decide⟩
        refine wx_iload dX9_replay_77 rfl ?_
        refine wx_V2 dX9_replay_79 zPV_X9_pullOf zLk_X9_170 rfl (Nat.le_of_ble_eq_true rfl) (Nat.le_of_ble_eq_true rfl) (Or.inr rfl) ?_
        rw [et, ew, show nI z - nI w = zi (((((z : Int) - (w : Int) + 2).toNat : Nat) : Int) - 2) from by rw [zi_nI, zi_nI, zi_sub]; exact congrArg zi (by omega)]
        refine s_X9_pullOf htt (by omega) ?_
        refine wx_r1 ?_
        refine wx_imul dX9_replay_82 ?_
        refine wx_goto (tgt := 87) dX9_replay_83 (by decide) ?_
        refine wx_isub dX9_replay_87 ?_
        refine wx_istore_n (i := 3) dX9_replay_88 rfl (Nat.le_of_ble_eq_true rfl) rfl ?_
        refine wx_inc (c := 1) dX9_replay_89 rfl (by decide) (Nat.le_of_ble_eq_true rfl) rfl ?_
        refine wx_goto (tgt := 33) dX9_replay_92 (by decide) ?_
        refine wx_weak 5 ?_
        rw [nI_1]
        first
          | (rw [if_pos h59] at h0; exact h0)
          | (rw [if_neg h59] at h0; exact h0)
theorem s_X9_replay_bad {d : Nat} {K : List Value → zS → Prop} {mm : zM} {a b : Int32} {n : Nat} (hzn : mm 128 0 = nI n) (hb : ¬ ((0 ≤ a ∧ a ≤ nI n - 1) ∧ (0 ≤ b ∧ b ≤ mm 128 14))) (hK : K [.int (-1000000)] (zG mm)) : wm (d + 2) mX9_replay [.ref 128, .int a, .int b] (zG mm) K := by
  refine wm_of2 (L0 := [some (.ref 128), some (.int a), some (.int b), none, none, none]) zCm_X9_replay (Or.inl rfl) (Nat.le_of_ble_eq_true rfl) rfl ?_
  refine wx_aload_n (i := 0) dX9_replay_0 rfl rfl ?_
  refine wx_iload_n (i := 1) dX9_replay_1 rfl rfl ?_
  refine wx_V1 dX9_replay_2 zPV_X9_isZone zLk_X9_130 rfl (Nat.le_of_ble_eq_true rfl) (Nat.le_of_ble_eq_true rfl) (Or.inr rfl) ?_
  refine s_X9_isZone _ ?_
  rw [hzn]
  refine wx_r1 ?_
  refine wx_eqb (tgt := 20) dX9_replay_5 (by decide) (fun h5 => ?_) (fun h5 => ?_)
  · skip
    refine wx_ldc dX9_replay_20 zKc_X9_136 ?_
    refine wx_iret dX9_replay_22 rfl rfl (Or.inl rfl) ?_
    exact hK
  · skip
    refine wx_iload_n (i := 2) dX9_replay_8 rfl rfl ?_
    refine wx_iconst (v := 0) dX9_replay_9 (by decide) ?_
    refine wx_aload_n (i := 0) dX9_replay_10 rfl rfl ?_
    refine wx_getIG (k := 128) dX9_replay_11 zF_X9_113 zKo_128 rfl (Nat.le_of_ble_eq_true rfl) ?_
    refine wx_S3 dX9_replay_14 zPS_X9_in zLk_X9_116 (Nat.le_of_ble_eq_true rfl) (Or.inr rfl) ?_
    refine s_X9_in _ _ _ ?_
    refine wx_r1 ?_
    refine wx_neb (tgt := 23) dX9_replay_17 (by decide) (fun h17 => ?_) (fun h17 => ?_)
    · skip
      exact (hb ⟨by assumption, by assumption⟩).elim
    · skip
      refine wx_ldc dX9_replay_20 zKc_X9_136 ?_
      refine wx_iret dX9_replay_22 rfl rfl (Or.inl rfl) ?_
      exact hK
theorem s_X9_replay_ok {d : Nat} {K : List Value → zS → Prop} {mm : zM} {n : Nat} (hzn : mm 128 0 = nI n) {z k q : Nat} (hz : z < 16) (hk : k ≤ q) (hq : q ≤ 60) (ht : ∀ j, j < q → ∃ t, t < 3 ∧ mm 136 j = nI t) (hzz : ∀ j, j < q → ∃ w, w < 16 ∧ mm 137 j = nI w) (k1 : 0 ≤ nI z ∧ nI z ≤ nI n - 1) (k2 : 0 ≤ nI k ∧ nI k ≤ mm 128 14) (hK : K [.int (zReM mm z (mm 130 z) k)] (zG mm)) : wm (d + 2) mX9_replay [.ref 128, .int (nI z), .int (nI k)] (zG mm) K := by
  refine wm_of2 (L0 := [some (.ref 128), some (.int (nI z)), some (.int (nI k)), none, none, none]) zCm_X9_replay (Or.inl rfl) (Nat.le_of_ble_eq_true rfl) rfl ?_
  refine wx_aload_n (i := 0) dX9_replay_0 rfl rfl ?_
  refine wx_iload_n (i := 1) dX9_replay_1 rfl rfl ?_
  refine wx_V1 dX9_replay_2 zPV_X9_isZone zLk_X9_130 rfl (Nat.le_of_ble_eq_true rfl) (Nat.le_of_ble_eq_true rfl) (Or.inr rfl) ?_
  refine s_X9_isZone _ ?_
  rw [hzn]
  refine wx_r1 ?_
  refine wx_eqb (tgt := 20) dX9_replay_5 (by decide) (fun h5 => ?_) (fun h5 => ?_)
  · contradiction --end
  · skip
    refine wx_iload_n (i := 2) dX9_replay_8 rfl rfl ?_
    refine wx_iconst (v := 0) dX9_replay_9 (by decide) ?_
    refine wx_aload_n (i := 0) dX9_replay_10 rfl rfl ?_
    refine wx_getIG (k := 128) dX9_replay_11 zF_X9_113 zKo_128 rfl (Nat.le_of_ble_eq_true rfl) ?_
    refine wx_S3 dX9_replay_14 zPS_X9_in zLk_X9_116 (Nat.le_of_ble_eq_true rfl) (Or.inr rfl) ?_
    refine s_X9_in _ _ _ ?_
    refine wx_r1 ?_
    refine wx_neb (tgt := 23) dX9_replay_17 (by decide) (fun h17 => ?_) (fun h17 => ?_)
    · skip
      refine wx_aload_n (i := 0) dX9_replay_23 rfl rfl ?_
      refine wx_getRG (k := 128) (t := 130) dX9_replay_24 zF_X9_17 zKo_128 rfl (Nat.le_of_ble_eq_true rfl) zRf_128_2 ?_
      refine wx_iload_n (i := 1) dX9_replay_27 rfl rfl ?_
      refine wx_ialdG (k := 130) dX9_replay_28 zK_130 (Nat.le_of_ble_eq_true rfl) rfl ?_ ?_
      · exact ⟨hz, by decide⟩
      refine wx_istore_n (i := 3) dX9_replay_29 rfl (Nat.le_of_ble_eq_true rfl) rfl ?_
      refine wx_iconst (v := 0) dX9_replay_30 (by decide) ?_
      refine wx_istore dX9_replay_31 (Nat.le_of_ble_eq_true rfl) rfl ?_
      exact lp_replayM hz hk hq ht hzz hK k 0 (by omega)
    · contradiction --end
/-- how many of the first i are told -/
def zTo (f : Nat → Int32) : Nat → Int32
  | 0 => 0
  | i + 1 => zTo f i + (if f i = 5000 then 0 else 1)
theorem lp_cnt1 {d : Nat} {K : List Value → zS → Prop} {mm : zM} {x : Int32} (hK : wx d mX9_count 41 [some (.ref 128), some (.int x), some (.int (zTo (mm 131) 45)), some (.int 0), none] [] (zG mm) K) : ∀ c i : Nat, i + c = 45 → wx (d) mX9_count 7 [some (.ref 128), some (.int x), some (.int (zTo (mm 131) i)), some (.int 0), some (.int (nI i))] [] (zG mm) K := by
  intro c
  induction c with
  | zero =>
    intro i hi 
    refine wx_iload dX9_count_7 rfl ?_
    refine wx_bipush (v := 45) dX9_count_9 (by decide) ?_
    refine wx_icmp_ge (tgt := 41) dX9_count_11 (by decide) (fun h11 => ?_) (fun h11 => ?_)
    · skip
      have hin : i = 45 := by omega
      subst hin
      refine wx_weak 4 ?_
      exact hK
    · exact absurd (show nI 45 ≤ nI i from nI_le (by omega) (by omega)) h11 --end
  | succ c ih =>
    intro i hi 
    refine wx_iload dX9_count_7 rfl ?_
    refine wx_bipush (v := 45) dX9_count_9 (by decide) ?_
    refine wx_icmp_ge (tgt := 41) dX9_count_11 (by decide) (fun h11 => ?_) (fun h11 => ?_)
    · exact absurd (show nI 45 ≤ nI i from h11) (nI_ge (by omega) (by omega)) --end
    · skip
      refine wx_iload_n (i := 2) dX9_count_14 rfl rfl ?_
      refine wx_aload_n (i := 0) dX9_count_15 rfl rfl ?_
      refine wx_getRG (k := 128) (t := 131) dX9_count_16 zF_X9_29 zKo_128 rfl (Nat.le_of_ble_eq_true rfl) zRf_128_6 ?_
      refine wx_iload dX9_count_19 rfl ?_
      refine wx_ialdG (k := 131) dX9_count_21 zK_131 (Nat.le_of_ble_eq_true rfl) rfl ?_ ?_
      · exact ⟨by omega, by decide⟩
      refine wx_sipush (v := 5000) dX9_count_22 (by decide) ?_
      refine wx_icmp_eq (tgt := 32) dX9_count_25 (by decide) (fun h25 => ?_) (fun h25 => ?_)
      · skip
        refine wx_iconst (v := 0) dX9_count_32 (by decide) ?_
        refine wx_iadd dX9_count_33 ?_
        refine wx_istore_n (i := 2) dX9_count_34 rfl (Nat.le_of_ble_eq_true rfl) rfl ?_
        refine wx_inc (c := 1) dX9_count_35 rfl (by decide) (Nat.le_of_ble_eq_true rfl) rfl ?_
        refine wx_goto (tgt := 7) dX9_count_38 (by decide) ?_
        rw [nI_1]
        have e := ih (i + 1) (by omega)
        unfold zTo at e
        first
          | (rw [if_pos h25] at e; exact e)
          | (rw [if_neg h25] at e; exact e)
      · skip
        refine wx_iconst (v := 1) dX9_count_28 (by decide) ?_
        refine wx_goto (tgt := 33) dX9_count_29 (by decide) ?_
        refine wx_iadd dX9_count_33 ?_
        refine wx_istore_n (i := 2) dX9_count_34 rfl (Nat.le_of_ble_eq_true rfl) rfl ?_
        refine wx_inc (c := 1) dX9_count_35 rfl (by decide) (Nat.le_of_ble_eq_true rfl) rfl ?_
        refine wx_goto (tgt := 7) dX9_count_38 (by decide) ?_
        rw [nI_1]
        have e := ih (i + 1) (by omega)
        unfold zTo at e
        first
          | (rw [if_pos h25] at e; exact e)
          | (rw [if_neg h25] at e; exact e)
theorem lp_cnt2 {d : Nat} {K : List Value → zS → Prop} {mm : zM} {x y : Int32} {q : Nat} (hks : mm 128 14 = nI q) (hq : q ≤ 60) (hK : wx d mX9_count 69 [some (.ref 128), some (.int x), some (.int y), some (.int (zMs (mm 138) q)), none] [] (zG mm) K) : ∀ c i : Nat, i + c = q → wx (d) mX9_count 44 [some (.ref 128), some (.int x), some (.int y), some (.int (zMs (mm 138) i)), some (.int (nI i))] [] (zG mm) K := by
  intro c
  induction c with
  | zero =>
    intro i hi 
    refine wx_iload dX9_count_44 rfl ?_
    refine wx_aload_n (i := 0) dX9_count_46 rfl rfl ?_
    refine wx_getIG (k := 128) dX9_count_47 zF_X9_113 zKo_128 rfl (Nat.le_of_ble_eq_true rfl) ?_
    refine wx_icmp_ge (tgt := 69) dX9_count_50 (by decide) (fun h50 => ?_) (fun h50 => ?_)
    · skip
      have hin : i = q := by omega
      subst hin
      refine wx_weak 4 ?_
      exact hK
    · exact absurd (by show mm 128 14 ≤ nI i; rw [hks]; exact nI_le (by omega) (by omega)) h50 --end
  | succ c ih =>
    intro i hi 
    refine wx_iload dX9_count_44 rfl ?_
    refine wx_aload_n (i := 0) dX9_count_46 rfl rfl ?_
    refine wx_getIG (k := 128) dX9_count_47 zF_X9_113 zKo_128 rfl (Nat.le_of_ble_eq_true rfl) ?_
    refine wx_icmp_ge (tgt := 69) dX9_count_50 (by decide) (fun h50 => ?_) (fun h50 => ?_)
    · exact absurd h50 (by show ¬ mm 128 14 ≤ nI i; rw [hks]; exact nI_ge (by omega) (by omega)) --end
    · skip
      refine wx_iload_n (i := 3) dX9_count_53 rfl rfl ?_
      refine wx_aload_n (i := 0) dX9_count_54 rfl rfl ?_
      refine wx_getRG (k := 128) (t := 138) dX9_count_55 zF_X9_56 zKo_128 rfl (Nat.le_of_ble_eq_true rfl) zRf_128_17 ?_
      refine wx_iload dX9_count_58 rfl ?_
      refine wx_ialdG (k := 138) dX9_count_60 zK_138 (Nat.le_of_ble_eq_true rfl) rfl ?_ ?_
      · exact ⟨by omega, by decide⟩
      refine wx_iadd dX9_count_61 ?_
      refine wx_istore_n (i := 3) dX9_count_62 rfl (Nat.le_of_ble_eq_true rfl) rfl ?_
      refine wx_inc (c := 1) dX9_count_63 rfl (by decide) (Nat.le_of_ble_eq_true rfl) rfl ?_
      refine wx_goto (tgt := 44) dX9_count_66 (by decide) ?_
      rw [nI_1]
      exact ih (i + 1) (by omega)
/-- what count answers, of the reference -/
def zCtM (mm : zM) (a : Int32) (q : Nat) : Int32 := if a = 0 then mm 128 0 else if a = 1 then zTo (mm 131) 45 else if a = 2 then mm 128 8 else if a = 3 then mm 128 14 else if a = 4 then zMs (mm 138) q else if a = 5 then mm 128 21 else -1
theorem zSix (a : Int32) : a = 0 ∨ a = 1 ∨ a = 2 ∨ a = 3 ∨ a = 4 ∨ a = 5 ∨ (a.toInt < 0 ∨ 5 < a.toInt) := by
  by_cases h : a.toInt < 0 ∨ 5 < a.toInt
  · exact Or.inr (Or.inr (Or.inr (Or.inr (Or.inr (Or.inr h)))))
  · have e : zi a.toInt = a := zi_of a
    have h1 : a.toInt = 0 ∨ a.toInt = 1 ∨ a.toInt = 2 ∨ a.toInt = 3 ∨ a.toInt = 4 ∨ a.toInt = 5 := by omega
    rcases h1 with q | q | q | q | q | q <;> rw [q] at e <;> rw [← e]
    · exact Or.inl rfl
    · exact Or.inr (Or.inl rfl)
    · exact Or.inr (Or.inr (Or.inl rfl))
    · exact Or.inr (Or.inr (Or.inr (Or.inl rfl)))
    · exact Or.inr (Or.inr (Or.inr (Or.inr (Or.inl rfl))))
    · exact Or.inr (Or.inr (Or.inr (Or.inr (Or.inr (Or.inl rfl)))))
theorem zSix_out {a : Int32} (h : a.toInt < 0 ∨ 5 < a.toInt) : ¬ a = 0 ∧ ¬ a = 1 ∧ ¬ a = 2 ∧ ¬ a = 3 ∧ ¬ a = 4 ∧ ¬ a = 5 := by
  refine ⟨?_, ?_, ?_, ?_, ?_, ?_⟩ <;> (intro q; subst q; exact absurd h (by decide))
theorem lp_cntM {d : Nat} {K : List Value → zS → Prop} {mm : zM} {a : Int32} {q : Nat} (hK : K [.int (zCtM mm a q)] (zG mm)) : wx d mX9_count 69 [some (.ref 128), some (.int a), some (.int (zTo (mm 131) 45)), some (.int (zMs (mm 138) q)), none] [] (zG mm) K := by
  refine wx_iload_n (i := 1) dX9_count_69 rfl rfl ?_
  rcases zSix a with rfl | rfl | rfl | rfl | rfl | rfl | hq
  · refine wx_tableIn (off := 38) (tgt := 108) dX9_count_70 (by decide) (by decide) (by decide) (by decide) ?_
    refine wx_aload_n (i := 0) dX9_count_108 rfl rfl ?_
    refine wx_getIG (k := 128) dX9_count_109 zF_X9_7 zKo_128 rfl (Nat.le_of_ble_eq_true rfl) ?_
    refine wx_iret dX9_count_112 rfl rfl (Or.inl rfl) ?_
    exact hK
  · refine wx_tableIn (off := 43) (tgt := 113) dX9_count_70 (by decide) (by decide) (by decide) (by decide) ?_
    refine wx_iload_n (i := 2) dX9_count_113 rfl rfl ?_
    refine wx_iret dX9_count_114 rfl rfl (Or.inl rfl) ?_
    exact hK
  · refine wx_tableIn (off := 45) (tgt := 115) dX9_count_70 (by decide) (by decide) (by decide) (by decide) ?_
    refine wx_aload_n (i := 0) dX9_count_115 rfl rfl ?_
    refine wx_getIG (k := 128) dX9_count_116 zF_X9_110 zKo_128 rfl (Nat.le_of_ble_eq_true rfl) ?_
    refine wx_iret dX9_count_119 rfl rfl (Or.inl rfl) ?_
    exact hK
  · refine wx_tableIn (off := 50) (tgt := 120) dX9_count_70 (by decide) (by decide) (by decide) (by decide) ?_
    refine wx_aload_n (i := 0) dX9_count_120 rfl rfl ?_
    refine wx_getIG (k := 128) dX9_count_121 zF_X9_113 zKo_128 rfl (Nat.le_of_ble_eq_true rfl) ?_
    refine wx_iret dX9_count_124 rfl rfl (Or.inl rfl) ?_
    exact hK
  · refine wx_tableIn (off := 55) (tgt := 125) dX9_count_70 (by decide) (by decide) (by decide) (by decide) ?_
    refine wx_iload_n (i := 3) dX9_count_125 rfl rfl ?_
    refine wx_iret dX9_count_126 rfl rfl (Or.inl rfl) ?_
    exact hK
  · refine wx_tableIn (off := 57) (tgt := 127) dX9_count_70 (by decide) (by decide) (by decide) (by decide) ?_
    refine wx_aload_n (i := 0) dX9_count_127 rfl rfl ?_
    refine wx_getIG (k := 128) dX9_count_128 zF_X9_213 zKo_128 rfl (Nat.le_of_ble_eq_true rfl) ?_
    refine wx_iret dX9_count_131 rfl rfl (Or.inl rfl) ?_
    exact hK
  · refine wx_tableOut (tgt := 132) dX9_count_70 hq (by decide) ?_
    obtain ⟨q0, q1, q2, q3, q4, q5⟩ := zSix_out hq
    refine wx_iconst (v := (-1)) dX9_count_132 (by decide) ?_
    refine wx_iret dX9_count_133 rfl rfl (Or.inl rfl) ?_
    unfold zCtM at hK
    rw [if_neg q0, if_neg q1, if_neg q2, if_neg q3, if_neg q4, if_neg q5] at hK
    exact hK
theorem s_X9_count {d : Nat} {K : List Value → zS → Prop} {mm : zM} {a : Int32} {q : Nat} (hks : mm 128 14 = nI q) (hq : q ≤ 60) (hK : K [.int (zCtM mm a q)] (zG mm)) : wm (d) mX9_count [.ref 128, .int a] (zG mm) K := by
  refine wm_of2 (L0 := [some (.ref 128), some (.int a), none, none, none]) zCm_X9_count (Or.inl rfl) (Nat.le_of_ble_eq_true rfl) rfl ?_
  refine wx_iconst (v := 0) dX9_count_0 (by decide) ?_
  refine wx_istore_n (i := 2) dX9_count_1 rfl (Nat.le_of_ble_eq_true rfl) rfl ?_
  refine wx_iconst (v := 0) dX9_count_2 (by decide) ?_
  refine wx_istore_n (i := 3) dX9_count_3 rfl (Nat.le_of_ble_eq_true rfl) rfl ?_
  refine wx_iconst (v := 0) dX9_count_4 (by decide) ?_
  refine wx_istore dX9_count_5 (Nat.le_of_ble_eq_true rfl) rfl ?_
  refine lp_cnt1 ?_ 45 0 (by omega)
  refine wx_iconst (v := 0) dX9_count_41 (by decide) ?_
  refine wx_istore dX9_count_42 (Nat.le_of_ble_eq_true rfl) rfl ?_
  exact lp_cnt2 hks hq (lp_cntM hK) q 0 (by omega)
