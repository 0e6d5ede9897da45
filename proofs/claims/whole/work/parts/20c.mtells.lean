/-! what the tests and wires of the reference tell -/
def zF7 (mm m1 : zM) : Prop := ∀ c j, ¬ (c = 128 ∧ j = 27) → m1 c j = mm c j
theorem zF7_fm {a b c : zM} (h : zFm a b) (g : zF7 b c) : zFm a c := fun x j u v w => (g x j w).trans (h x j u v w)
theorem zF7_trans {a b c : zM} (h : zF7 a b) (g : zF7 b c) : zF7 a c := fun x j w => (g x j w).trans (h x j w)
theorem zMR_f7 {g : Nat → Nat → Int} {s : Nat → Int} {L : Int} {mm m1 : zM} (h : zMR g s L mm) (f : zF7 mm m1) : zMR g s L m1 := ⟨fun t k u1 u2 => (f 131 _ (by omega)).trans (h.1 t k u1 u2), fun t u1 => (f 144 t (by omega)).trans (h.2.1 t u1), (f 128 7 (by decide)).trans h.2.2⟩
theorem zPv_g {f : Nat → Int} {i z : Nat} (h : f i = 5000) (hi : i < z) : zPv f z = 1000000 := by unfold zPv; rw [zNo_t h hi]; rfl
theorem zPv_s {f : Nat → Int} {z : Nat} (h : ∀ j, j < z → ¬ f j = 5000) : zPv f z = zPd f z := by unfold zPv; rw [zNo_f h]; rfl
/-- the wires of the reference -/
def zWM (wi wj : Nat → Nat) (wv : Nat → Int) (q : Nat) (mm : zM) : Prop := mm 128 8 = nI q ∧ ∀ k, k < q → mm 132 k = nI (wi k) ∧ mm 133 k = nI (wj k) ∧ mm 134 k = zi (wv k)
theorem zWM_fm {wi wj : Nat → Nat} {wv : Nat → Int} {q : Nat} {mm m2 : zM} (h : zWM wi wj wv q mm) (f : zFm mm m2) : zWM wi wj wv q m2 := ⟨by rw [f 128 8 (by decide) (by decide) (by decide)]; exact h.1, fun k hk => ⟨by rw [f 132 k (by decide) (by decide) (by omega)]; exact (h.2 k hk).1, by rw [f 133 k (by decide) (by decide) (by omega)]; exact (h.2 k hk).2.1, by rw [f 134 k (by decide) (by decide) (by omega)]; exact (h.2 k hk).2.2⟩⟩
theorem zF7_m {a b : zM} (h : zF7 a b) : zFm a b := fun x j _ _ w => h x j w
theorem lp_mprof {d : Nat} {K : List Value → zS → Prop} {m0 : zM} {g : Nat → Nat → Int} {s : Nat → Int} {L : Int} (hOk : zOk g s L) (hR : zMR g s L m0) {z : Nat} (hz : z ≤ 15) (hK : ∀ m1 : zM, zF7 m0 m1 → K [.int (zi (zPv (fun i => (zDs g s L i 3).2.2) z))] (zG m1)) : ∀ (c i : Nat) (m1 : zM), i + c = z → (zF7 m0 m1) → (∀ j, j < i → ¬ (zDs g s L j 3).2.2 = 5000) → wx (d + 4) mX9_profileOf 4 [some (.ref 128), some (.int (nI z)), some (.int (zi (zPd (fun i => (zDs g s L i 3).2.2) i))), some (.int (nI i))] [] (zG m1) K := by
  intro c
  induction c with
  | zero =>
    intro i m1 hi hf hno
    obtain rfl : i = z := by omega
    refine wx_iload_n (i := 3) dX9_profileOf_4 rfl rfl ?_
    refine wx_iload_n (i := 1) dX9_profileOf_5 rfl rfl ?_
    refine wx_icmp_ge (tgt := 41) dX9_profileOf_6 (by decide) (fun h6 => ?_) (fun h6 => ?_)
    · skip
      refine wx_iload_n (i := 2) dX9_profileOf_41 rfl rfl ?_
      refine wx_iret dX9_profileOf_42 rfl rfl (Or.inl rfl) ?_
      exact zki (hK m1 hf) (by rw [zPv_s hno])
    · exact absurd (show nI i ≤ nI i from nI_le (by omega) (by omega)) h6 --end
  | succ c ih =>
    intro i m1 hi hf hno
    have hfb := (zDs_bd hOk i 3).2.2
    refine wx_iload_n (i := 3) dX9_profileOf_4 rfl rfl ?_
    refine wx_iload_n (i := 1) dX9_profileOf_5 rfl rfl ?_
    refine wx_icmp_ge (tgt := 41) dX9_profileOf_6 (by decide) (fun h6 => ?_) (fun h6 => ?_)
    · exact absurd (show nI z ≤ nI i from h6) (nI_ge (by omega) (by omega)) --end
    · skip
      refine wx_aload_n (i := 0) dX9_profileOf_9 rfl rfl ?_
      refine wx_iload_n (i := 3) dX9_profileOf_10 rfl rfl ?_
      refine wx_V1 dX9_profileOf_11 zPV_X9_dropped zLk_X9_155 rfl (Nat.le_of_ble_eq_true rfl) (Nat.le_of_ble_eq_true rfl) (Or.inr rfl) ?_
      refine s_X9_dropped hOk (zMR_f7 hR hf) (by omega) ?_
      refine wx_r1 ?_
      refine wx_pop dX9_profileOf_14 rfl ?_
      refine wx_aload_n (i := 0) dX9_profileOf_15 rfl rfl ?_
      refine wx_getIG (k := 128) dX9_profileOf_16 zF_X9_149 zKo_128 rfl (Nat.le_of_ble_eq_true rfl) ?_
      refine wx_sipush (v := 5000) dX9_profileOf_19 (by decide) ?_
      refine wx_icmp_ne (tgt := 28) dX9_profileOf_22 (by decide) (fun h22 => ?_) (fun h22 => ?_)
      · rw [zU_same, zl_5000, zi_eq (by omega) (by omega)] at h22
        
        refine wx_iload_n (i := 2) dX9_profileOf_28 rfl rfl ?_
        refine wx_aload_n (i := 0) dX9_profileOf_29 rfl rfl ?_
        refine wx_getIG (k := 128) dX9_profileOf_30 zF_X9_149 zKo_128 rfl (Nat.le_of_ble_eq_true rfl) ?_
        refine wx_iadd dX9_profileOf_33 ?_
        refine wx_istore_n (i := 2) dX9_profileOf_34 rfl (Nat.le_of_ble_eq_true rfl) rfl ?_
        refine wx_inc (c := 1) dX9_profileOf_35 rfl (by decide) (Nat.le_of_ble_eq_true rfl) rfl ?_
        refine wx_goto (tgt := 4) dX9_profileOf_38 (by decide) ?_
        rw [nI_1, zU_same, zi_add]
        exact ih (i + 1) _ (by omega) (fun c j w => (zU_off w).trans (hf c j w)) (fun j hj => by
          by_cases e : j = i
          · subst e; exact h22
          · exact hno j (by omega))
      · rw [zU_same, zl_5000, zi_eq (by omega) (by omega)] at h22
        
        refine wx_ldc dX9_profileOf_25 zKc_X9_162 ?_
        refine wx_iret dX9_profileOf_27 rfl rfl (Or.inl rfl) ?_
        exact zki (hK _ (fun c j w => (zU_off w).trans (hf c j w))) (by rw [zPv_g (f := (fun i => (zDs g s L i 3).2.2)) (i := i) h22 (by omega)]; rfl)
theorem s_X9_profileOf {d : Nat} {K : List Value → zS → Prop} {mm : zM} {g : Nat → Nat → Int} {s : Nat → Int} {L : Int} (hOk : zOk g s L) (hR : zMR g s L mm) {z : Nat} (hz : z ≤ 15) (hK : ∀ m1 : zM, zF7 mm m1 → K [.int (zi (zPv (fun i => (zDs g s L i 3).2.2) z))] (zG m1)) : wm (d + 4) mX9_profileOf [.ref 128, .int (nI z)] (zG mm) K := by
  refine wm_of2 (L0 := [some (.ref 128), some (.int (nI z)), none, none]) zCm_X9_profileOf (Or.inl rfl) (Nat.le_of_ble_eq_true rfl) rfl ?_
  refine wx_iconst (v := 0) dX9_profileOf_0 (by decide) ?_
  refine wx_istore_n (i := 2) dX9_profileOf_1 rfl (Nat.le_of_ble_eq_true rfl) rfl ?_
  refine wx_iconst (v := 0) dX9_profileOf_2 (by decide) ?_
  refine wx_istore_n (i := 3) dX9_profileOf_3 rfl (Nat.le_of_ble_eq_true rfl) rfl ?_
  exact lp_mprof hOk hR hz hK z 0 mm (by omega) (fun _ _ _ => rfl) (fun j hj => absurd hj (Nat.not_lt_zero j))
theorem s_X9_offOf {d : Nat} {K : List Value → zS → Prop} {mm : zM} {g : Nat → Nat → Int} {L : Int} {n : Nat} {wi wj : Nat → Nat} {wv : Nat → Int} {q : Nat} (hO : zOg g L n) (hR : zMR g (zSh g L n) L mm) (hW : zWO n wi wj wv q) (hC : zWM wi wj wv q mm) {k : Nat} (hk : k < q) (hK : ∀ m1 : zM, zF7 mm m1 → K [.int (zi (zOf (zFd g L n) wi wj wv k))] (zG m1))  : wm (d + 5) mX9_offOf [.ref 128, .int (nI k)] (zG mm) K := by
  have hp1 := zPv_b (zFd_b (g := g) (L := L) hO) (z := wi k) (by have := (hW.2 k hk).1; have := hO.2.2; omega)
  have hp2 := zPv_b (zFd_b (g := g) (L := L) hO) (z := wj k) (by have := (hW.2 k hk).1; have := hO.2.2; omega)
  refine wm_of2 (L0 := [some (.ref 128), some (.int (nI k)), none, none]) zCm_X9_offOf (Or.inl rfl) (Nat.le_of_ble_eq_true rfl) rfl ?_
  refine wx_aload_n (i := 0) dX9_offOf_0 rfl rfl ?_
  refine wx_aload_n (i := 0) dX9_offOf_1 rfl rfl ?_
  refine wx_getRG (k := 128) (t := 132) dX9_offOf_2 zF_X9_35 zKo_128 rfl (Nat.le_of_ble_eq_true rfl) zRf_128_9 ?_
  refine wx_iload_n (i := 1) dX9_offOf_5 rfl rfl ?_
  refine wx_ialdG (k := 132) dX9_offOf_6 zK_132 (Nat.le_of_ble_eq_true rfl) rfl ?_ ?_
  · exact ⟨by have := hW.1; omega, by decide⟩
  refine wx_V1 dX9_offOf_7 zPV_X9_profileOf zLk_X9_164 rfl (Nat.le_of_ble_eq_true rfl) (Nat.le_of_ble_eq_true rfl) (Or.inr rfl) ?_
  rw [(hC.2 k hk).1]
  refine s_X9_profileOf (zOk_sh hO) hR (by have := (hW.2 k hk).1; have := hO.2.2; omega) (fun m2 hf => ?_)
  have hC2 := zWM_fm hC (zF7_m hf)
  rw [show (fun i => (zDs g (zSh g L n) L i 3).2.2) = zFd g L n from rfl]
  refine wx_r1 ?_
  refine wx_istore_n (i := 2) dX9_offOf_10 rfl (Nat.le_of_ble_eq_true rfl) rfl ?_
  refine wx_aload_n (i := 0) dX9_offOf_11 rfl rfl ?_
  refine wx_aload_n (i := 0) dX9_offOf_12 rfl rfl ?_
  refine wx_getRG (k := 128) (t := 133) dX9_offOf_13 zF_X9_38 zKo_128 rfl (Nat.le_of_ble_eq_true rfl) zRf_128_10 ?_
  refine wx_iload_n (i := 1) dX9_offOf_16 rfl rfl ?_
  refine wx_ialdG (k := 133) dX9_offOf_17 zK_133 (Nat.le_of_ble_eq_true rfl) rfl ?_ ?_
  · exact ⟨by have := hW.1; omega, by decide⟩
  refine wx_V1 dX9_offOf_18 zPV_X9_profileOf zLk_X9_164 rfl (Nat.le_of_ble_eq_true rfl) (Nat.le_of_ble_eq_true rfl) (Or.inr rfl) ?_
  rw [(hC2.2 k hk).2.1]
  refine s_X9_profileOf (zOk_sh hO) (zMR_f7 hR hf) (by have := (hW.2 k hk).1; have := hO.2.2; omega) (fun m3 hf3 => ?_)
  have hC3 := zWM_fm hC2 (zF7_m hf3)
  rw [show (fun i => (zDs g (zSh g L n) L i 3).2.2) = zFd g L n from rfl]
  refine wx_r1 ?_
  refine wx_istore_n (i := 3) dX9_offOf_21 rfl (Nat.le_of_ble_eq_true rfl) rfl ?_
  refine wx_iload_n (i := 2) dX9_offOf_22 rfl rfl ?_
  refine wx_ldc dX9_offOf_23 zKc_X9_162 ?_
  refine wx_icmp_eq (tgt := 34) dX9_offOf_25 (by decide) (fun h25 => ?_) (fun h25 => ?_)
  · rw [zl_1000000, zi_eq (by omega) (by omega)] at h25
    refine wx_ldc dX9_offOf_34 zKc_X9_162 ?_
    refine wx_goto (tgt := 49) dX9_offOf_36 (by decide) ?_
    refine wx_iret dX9_offOf_49 rfl rfl (Or.inl rfl) ?_
    first | exact zki (hK m3 (zF7_trans hf hf3)) (by unfold zOf; rw [if_pos (Or.inl h25)]; rfl) | exact zki (hK m3 (zF7_trans hf hf3)) (by unfold zOf; rw [if_pos (Or.inr h31)]; rfl) | exact zki (hK m3 (zF7_trans hf hf3)) (by rw [(hC3.2 k hk).2.2]; unfold zOf; rw [if_neg (fun w => w.elim h25 h31), zi_sub, zi_sub])
  · rw [zl_1000000, zi_eq (by omega) (by omega)] at h25
    refine wx_iload_n (i := 3) dX9_offOf_28 rfl rfl ?_
    refine wx_ldc dX9_offOf_29 zKc_X9_162 ?_
    refine wx_icmp_ne (tgt := 39) dX9_offOf_31 (by decide) (fun h31 => ?_) (fun h31 => ?_)
    · rw [zl_1000000, zi_eq (by omega) (by omega)] at h31
      refine wx_aload_n (i := 0) dX9_offOf_39 rfl rfl ?_
      refine wx_getRG (k := 128) (t := 134) dX9_offOf_40 zF_X9_41 zKo_128 rfl (Nat.le_of_ble_eq_true rfl) zRf_128_11 ?_
      refine wx_iload_n (i := 1) dX9_offOf_43 rfl rfl ?_
      refine wx_ialdG (k := 134) dX9_offOf_44 zK_134 (Nat.le_of_ble_eq_true rfl) rfl ?_ ?_
      · exact ⟨by have := hW.1; omega, by decide⟩
      refine wx_iload_n (i := 3) dX9_offOf_45 rfl rfl ?_
      refine wx_iload_n (i := 2) dX9_offOf_46 rfl rfl ?_
      refine wx_isub dX9_offOf_47 ?_
      refine wx_isub dX9_offOf_48 ?_
      refine wx_iret dX9_offOf_49 rfl rfl (Or.inl rfl) ?_
      first | exact zki (hK m3 (zF7_trans hf hf3)) (by unfold zOf; rw [if_pos (Or.inl h25)]; rfl) | exact zki (hK m3 (zF7_trans hf hf3)) (by unfold zOf; rw [if_pos (Or.inr h31)]; rfl) | exact zki (hK m3 (zF7_trans hf hf3)) (by rw [(hC3.2 k hk).2.2]; unfold zOf; rw [if_neg (fun w => w.elim h25 h31), zi_sub, zi_sub])
    · rw [zl_1000000, zi_eq (by omega) (by omega)] at h31
      refine wx_ldc dX9_offOf_34 zKc_X9_162 ?_
      refine wx_goto (tgt := 49) dX9_offOf_36 (by decide) ?_
      refine wx_iret dX9_offOf_49 rfl rfl (Or.inl rfl) ?_
      first | exact zki (hK m3 (zF7_trans hf hf3)) (by unfold zOf; rw [if_pos (Or.inl h25)]; rfl) | exact zki (hK m3 (zF7_trans hf hf3)) (by unfold zOf; rw [if_pos (Or.inr h31)]; rfl) | exact zki (hK m3 (zF7_trans hf hf3)) (by rw [(hC3.2 k hk).2.2]; unfold zOf; rw [if_neg (fun w => w.elim h25 h31), zi_sub, zi_sub])
