/-! the rings of the reference: bear -/
def zSq (bd : Nat → Nat → Int) (n : Nat) (st : Int × List Nat) (t : List Nat) : Int × List Nat := if zUs t ≤ 3 then zStp (zSpt bd n) st t else st
def zFe (mm m2 : zM) : Prop := ∀ c j, c ≠ 149 → c ≠ 150 → ¬ (c = 128 ∧ j = 33) → m2 c j = mm c j
theorem zFe_refl (mm : zM) : zFe mm mm := fun _ _ _ _ _ => rfl
theorem zMb_fe {bd : Nat → Nat → Int} {n : Nat} {mm m2 : zM} (h : zMb bd n mm) (f : zFe mm m2) : zMb bd n m2 := ⟨fun r z u v => by rw [f 140 _ (by decide) (by decide) (by omega)]; exact h.1 r z u v, by rw [f 128 0 (by decide) (by decide) (by decide)]; exact h.2⟩
theorem zMs2_sh {st : Int × List Nat} {mm : zM} {j : Nat} {v : Int32} (h : zMs2 st mm) : zMs2 st (zU mm 149 j v) := ⟨⟨by rw [zU_ne (by decide)]; exact h.1.1, h.1.2⟩, fun r hr => by rw [zU_ne (by decide)]; exact h.2 r hr⟩
theorem zFe_sh {a b : zM} (h : zFe a b) {j : Nat} {v : Int32} : zFe a (zU b 149 j v) := fun x k u v w => (zU_off (fun z => u z.1)).trans (h x k u v w)
theorem zFe_fb {a b c : zM} (h : zFe a b) (g : zFb b c) : zFe a c := fun x j u v w => (g x j v w).trans (h x j u v w)
theorem zM5_fold {bd : Nat → Nat → Int} {n : Nat} (hO : zRo bd n) {a : Int} (ha : 24000 < a) (t : List Nat) : zM5.foldl (zSq bd n) (a, t) = zBr bd n := by
  have h : (zM5.filter (fun t => decide (zUs t ≤ 3))).foldl (zStp (zSpt bd n)) (a, t) = zBr bd n := by
    rw [← zM_eq]
    exact zBr_of hO ha t
  rw [List.foldl_filter] at h
  have hf : (fun x y => if decide (zUs y ≤ 3) = true then zStp (zSpt bd n) x y else x) = zSq bd n := by
    funext st x
    unfold zSq
    simp only [decide_eq_true_eq]
  rw [hf] at h
  exact h
theorem lp_bear_e {d : Nat} {K : List Value → zS → Prop} {mm : zM} {bd : Nat → Nat → Int} {n : Nat} (hO : zRo bd n) (hC : zMb bd n mm) {p : Nat} {q : Nat} {r : Nat} {s : Nat} {v : Int32} {R : Int × List Nat} (hsum : p + q + r + s ≤ 12) (hK : ∀ (m2 : zM) (z0 : Option Value), zFe mm m2 → zMs2 R m2 → wx (d + 2) mX9_bear 150 [some (.ref 128), some (.int v), some (.int (zi (p : Int))), some (.int (zi (q : Int))), some (.int (zi (r : Int))), some (.int (zi (s : Int))), z0] [] (zG m2) K)  : ∀ (c i : Nat) (m1 : zM) (st1 : Int × List Nat) , i + c = (13 - p - q - r - s) → (zFe mm m1) → (zMs2 st1 m1) → (((zDl c).map (fun e => [p, q, r, s, e, 12 - p - q - r - s - e])).foldl (zSq bd n) st1 = R) → wx (d + 2) mX9_bear 76 [some (.ref 128), some (.int v), some (.int (zi (p : Int))), some (.int (zi (q : Int))), some (.int (zi (r : Int))), some (.int (zi (s : Int))), some (.int (zi ((c : Int) - 1)))] [] (zG m1) K := by
  intro c
  induction c with
  | zero =>
    intro i m1 st1 hi hf hs hR
    obtain rfl : i = (13 - p - q - r - s) := by omega
    refine wx_iload dX9_bear_76 rfl ?_
    refine wx_if_lt (tgt := 150) dX9_bear_78 (by decide) (fun h78 => ?_) (fun h78 => ?_)
    · skip
      rw [← show st1 = R from hR] at hK
      exact hK m1 _ hf hs
    · exact absurd (show zi (((0 : Nat) : Int) - 1) < 0 by rw [zl_0, zi_lt (by omega) (by omega)]; omega) h78 --end
  | succ c ih =>
    intro i m1 st1 hi hf hs hR
    rw [show (((c + 1 : Nat) : Int) - 1) = (c : Int) by omega]
    refine wx_iload dX9_bear_76 rfl ?_
    refine wx_if_lt (tgt := 150) dX9_bear_78 (by decide) (fun h78 => ?_) (fun h78 => ?_)
    · exact absurd h78 (by rw [zl_0, zi_lt (by omega) (by omega)]; omega) --end
    · skip
      refine wx_aload_n (i := 0) dX9_bear_81 rfl rfl ?_
      refine wx_getRG (k := 128) (t := 149) dX9_bear_82 zF_X9_90 zKo_128 rfl (Nat.le_of_ble_eq_true rfl) zRf_128_31 ?_
      refine wx_iconst (v := 0) dX9_bear_85 (by decide) ?_
      refine wx_iload_n (i := 2) dX9_bear_86 rfl rfl ?_
      refine wx_iastG (k := 149) (j := 0) dX9_bear_87 zK_149 (Nat.le_of_ble_eq_true rfl) rfl ?_ ?_
      · exact ⟨by omega, by decide⟩
      refine wx_aload_n (i := 0) dX9_bear_88 rfl rfl ?_
      refine wx_getRG (k := 128) (t := 149) dX9_bear_89 zF_X9_90 zKo_128 rfl (Nat.le_of_ble_eq_true rfl) zRf_128_31 ?_
      refine wx_iconst (v := 1) dX9_bear_92 (by decide) ?_
      refine wx_iload_n (i := 3) dX9_bear_93 rfl rfl ?_
      refine wx_iastG (k := 149) (j := 1) dX9_bear_94 zK_149 (Nat.le_of_ble_eq_true rfl) rfl ?_ ?_
      · exact ⟨by omega, by decide⟩
      refine wx_aload_n (i := 0) dX9_bear_95 rfl rfl ?_
      refine wx_getRG (k := 128) (t := 149) dX9_bear_96 zF_X9_90 zKo_128 rfl (Nat.le_of_ble_eq_true rfl) zRf_128_31 ?_
      refine wx_iconst (v := 2) dX9_bear_99 (by decide) ?_
      refine wx_iload dX9_bear_100 rfl ?_
      refine wx_iastG (k := 149) (j := 2) dX9_bear_102 zK_149 (Nat.le_of_ble_eq_true rfl) rfl ?_ ?_
      · exact ⟨by omega, by decide⟩
      refine wx_aload_n (i := 0) dX9_bear_103 rfl rfl ?_
      refine wx_getRG (k := 128) (t := 149) dX9_bear_104 zF_X9_90 zKo_128 rfl (Nat.le_of_ble_eq_true rfl) zRf_128_31 ?_
      refine wx_iconst (v := 3) dX9_bear_107 (by decide) ?_
      refine wx_iload dX9_bear_108 rfl ?_
      refine wx_iastG (k := 149) (j := 3) dX9_bear_110 zK_149 (Nat.le_of_ble_eq_true rfl) rfl ?_ ?_
      · exact ⟨by omega, by decide⟩
      refine wx_aload_n (i := 0) dX9_bear_111 rfl rfl ?_
      refine wx_getRG (k := 128) (t := 149) dX9_bear_112 zF_X9_90 zKo_128 rfl (Nat.le_of_ble_eq_true rfl) zRf_128_31 ?_
      refine wx_iconst (v := 4) dX9_bear_115 (by decide) ?_
      refine wx_iload dX9_bear_116 rfl ?_
      refine wx_iastG (k := 149) (j := 4) dX9_bear_118 zK_149 (Nat.le_of_ble_eq_true rfl) rfl ?_ ?_
      · exact ⟨by omega, by decide⟩
      refine wx_aload_n (i := 0) dX9_bear_119 rfl rfl ?_
      refine wx_getRG (k := 128) (t := 149) dX9_bear_120 zF_X9_90 zKo_128 rfl (Nat.le_of_ble_eq_true rfl) zRf_128_31 ?_
      refine wx_iconst (v := 5) dX9_bear_123 (by decide) ?_
      refine wx_bipush (v := 12) dX9_bear_124 (by decide) ?_
      refine wx_iload_n (i := 2) dX9_bear_126 rfl rfl ?_
      refine wx_isub dX9_bear_127 ?_
      refine wx_iload_n (i := 3) dX9_bear_128 rfl rfl ?_
      refine wx_isub dX9_bear_129 ?_
      refine wx_iload dX9_bear_130 rfl ?_
      refine wx_isub dX9_bear_132 ?_
      refine wx_iload dX9_bear_133 rfl ?_
      refine wx_isub dX9_bear_135 ?_
      refine wx_iload dX9_bear_136 rfl ?_
      refine wx_isub dX9_bear_138 ?_
      refine wx_iastG (k := 149) (j := 5) dX9_bear_139 zK_149 (Nat.le_of_ble_eq_true rfl) rfl ?_ ?_
      · exact ⟨by omega, by decide⟩
      refine wx_aload_n (i := 0) dX9_bear_140 rfl rfl ?_
      refine wx_V0 dX9_bear_141 zPV_X9_spreads zLk_X9_201 rfl (Nat.le_of_ble_eq_true rfl) (Nat.le_of_ble_eq_true rfl) (Or.inr rfl) ?_
      refine s_X9_spreads (t := [p, q, r, s, c, 12 - p - q - r - s - c]) hO (zMb_fe hC (zFe_sh (zFe_sh (zFe_sh (zFe_sh (zFe_sh (zFe_sh hf))))))) ?hsh ?h12 ?ht (zMs2_sh (zMs2_sh (zMs2_sh (zMs2_sh (zMs2_sh (zMs2_sh hs)))))) (fun m2 hf2 hs2 => ?hgo)
      case hsh =>
        intro r2 hr2
        rcases (by omega : r2 = 0 ∨ r2 = 1 ∨ r2 = 2 ∨ r2 = 3 ∨ r2 = 4 ∨ r2 = 5) with rfl | rfl | rfl | rfl | rfl | rfl
        · exact (zi_nI p).symm
        · exact (zi_nI q).symm
        · exact (zi_nI r).symm
        · exact (zi_nI s).symm
        · exact (zi_nI c).symm
        · show (12 : Int32) - zi p - zi q - zi r - zi s - zi c = nI (12 - p - q - r - s - c)
          rw [show (12 : Int32) = zi 12 from rfl, zi_sub, zi_sub, zi_sub, zi_sub, zi_sub, zi_nI]
          exact congrArg zi (by omega)
      case h12 =>
        show 0 + p + q + r + s + c + (12 - p - q - r - s - c) = 12
        omega
      case ht =>
        intro r2
        rcases (by omega : r2 = 0 ∨ r2 = 1 ∨ r2 = 2 ∨ r2 = 3 ∨ r2 = 4 ∨ r2 = 5 ∨ 6 ≤ r2) with rfl | rfl | rfl | rfl | rfl | rfl | h
        · show p ≤ 12; omega
        · show q ≤ 12; omega
        · show r ≤ 12; omega
        · show s ≤ 12; omega
        · show c ≤ 12; omega
        · show 12 - p - q - r - s - c ≤ 12; omega
        · rw [zGetD_len (show [p, q, r, s, c, 12 - p - q - r - s - c].length ≤ r2 from h)]; omega
      case hgo =>
        refine wx_r0 ?_
        refine wx_inc (c := (-1)) dX9_bear_144 rfl (by decide) (Nat.le_of_ble_eq_true rfl) rfl ?_
        refine wx_goto (tgt := 76) dX9_bear_147 (by decide) ?_
        rw [show zi (c : Int) + (-1) = zi ((c : Int) - 1) from by rw [zm_1, zi_add]; rfl]
        rw [← zUs_6] at hs2
        exact ih (i + 1) m2 _ (by omega) (zFe_fb (zFe_sh (zFe_sh (zFe_sh (zFe_sh (zFe_sh (zFe_sh hf)))))) hf2) hs2 (by rw [← hR]; rfl)
theorem lp_bear_s {d : Nat} {K : List Value → zS → Prop} {mm : zM} {bd : Nat → Nat → Int} {n : Nat} (hO : zRo bd n) (hC : zMb bd n mm) {p : Nat} {q : Nat} {r : Nat} {v : Int32} {R : Int × List Nat} (hsum : p + q + r ≤ 12) (hK : ∀ (m2 : zM) (z0 z1 : Option Value), zFe mm m2 → zMs2 R m2 → wx (d + 2) mX9_bear 156 [some (.ref 128), some (.int v), some (.int (zi (p : Int))), some (.int (zi (q : Int))), some (.int (zi (r : Int))), z0, z1] [] (zG m2) K)  : ∀ (c i : Nat) (m1 : zM) (st1 : Int × List Nat) (y4 : Option Value), i + c = (13 - p - q - r) → (zFe mm m1) → (zMs2 st1 m1) → (((zDl c).flatMap (fun s => zM1 p q r s)).foldl (zSq bd n) st1 = R) → wx (d + 2) mX9_bear 57 [some (.ref 128), some (.int v), some (.int (zi (p : Int))), some (.int (zi (q : Int))), some (.int (zi (r : Int))), some (.int (zi ((c : Int) - 1))), y4] [] (zG m1) K := by
  intro c
  induction c with
  | zero =>
    intro i m1 st1 y4 hi hf hs hR
    obtain rfl : i = (13 - p - q - r) := by omega
    refine wx_iload dX9_bear_57 rfl ?_
    refine wx_if_lt (tgt := 156) dX9_bear_59 (by decide) (fun h59 => ?_) (fun h59 => ?_)
    · skip
      rw [← show st1 = R from hR] at hK
      exact hK m1 _ _ hf hs
    · exact absurd (show zi (((0 : Nat) : Int) - 1) < 0 by rw [zl_0, zi_lt (by omega) (by omega)]; omega) h59 --end
  | succ c ih =>
    intro i m1 st1 y4 hi hf hs hR
    rw [show (((c + 1 : Nat) : Int) - 1) = (c : Int) by omega]
    have e0 : ∀ x : Int, x = ((13 - p - q - r - c : Nat) : Int) - 1 → zi x = zi (((13 - p - q - r - c : Nat) : Int) - 1) := fun x h => by rw [h]
    refine wx_iload dX9_bear_57 rfl ?_
    refine wx_if_lt (tgt := 156) dX9_bear_59 (by decide) (fun h59 => ?_) (fun h59 => ?_)
    · exact absurd h59 (by rw [zl_0, zi_lt (by omega) (by omega)]; omega) --end
    · skip
      refine wx_bipush (v := 12) dX9_bear_62 (by decide) ?_
      refine wx_iload_n (i := 2) dX9_bear_64 rfl rfl ?_
      refine wx_isub dX9_bear_65 ?_
      refine wx_iload_n (i := 3) dX9_bear_66 rfl rfl ?_
      refine wx_isub dX9_bear_67 ?_
      refine wx_iload dX9_bear_68 rfl ?_
      refine wx_isub dX9_bear_70 ?_
      refine wx_iload dX9_bear_71 rfl ?_
      refine wx_isub dX9_bear_73 ?_
      refine wx_istore dX9_bear_74 (Nat.le_of_ble_eq_true rfl) rfl ?_
      rw [show (12 : Int32) = zi 12 from rfl, zi_sub, zi_sub, zi_sub, zi_sub, e0 ((12 : Int) - (p : Int) - (q : Int) - (r : Int) - (c : Int)) (by omega)]
      refine lp_bear_e hO hC (R := (zM1 p q r c).foldl (zSq bd n) st1) (by omega) (fun m2 w0 hf2 hs2 => ?hgo) (13 - p - q - r - c) 0 m1 st1 (by omega) hf hs rfl
      refine wx_inc (c := (-1)) dX9_bear_150 rfl (by decide) (Nat.le_of_ble_eq_true rfl) rfl ?_
      refine wx_goto (tgt := 57) dX9_bear_153 (by decide) ?_
      rw [show zi (c : Int) + (-1) = zi ((c : Int) - 1) from by rw [zm_1, zi_add]; rfl]
      exact ih (i + 1) m2 _ _ (by omega) hf2 hs2 (by rw [← hR]; show _ = (((c :: zDl c).flatMap (fun s => zM1 p q r s))).foldl (zSq bd n) st1; rw [List.flatMap_cons, List.foldl_append])
theorem lp_bear_r {d : Nat} {K : List Value → zS → Prop} {mm : zM} {bd : Nat → Nat → Int} {n : Nat} (hO : zRo bd n) (hC : zMb bd n mm) {p : Nat} {q : Nat} {v : Int32} {R : Int × List Nat} (hsum : p + q ≤ 12) (hK : ∀ (m2 : zM) (z0 z1 z2 : Option Value), zFe mm m2 → zMs2 R m2 → wx (d + 2) mX9_bear 162 [some (.ref 128), some (.int v), some (.int (zi (p : Int))), some (.int (zi (q : Int))), z0, z1, z2] [] (zG m2) K)  : ∀ (c i : Nat) (m1 : zM) (st1 : Int × List Nat) (y3 y4 : Option Value), i + c = (13 - p - q) → (zFe mm m1) → (zMs2 st1 m1) → (((zDl c).flatMap (fun r => zM2 p q r)).foldl (zSq bd n) st1 = R) → wx (d + 2) mX9_bear 41 [some (.ref 128), some (.int v), some (.int (zi (p : Int))), some (.int (zi (q : Int))), some (.int (zi ((c : Int) - 1))), y3, y4] [] (zG m1) K := by
  intro c
  induction c with
  | zero =>
    intro i m1 st1 y3 y4 hi hf hs hR
    obtain rfl : i = (13 - p - q) := by omega
    refine wx_iload dX9_bear_41 rfl ?_
    refine wx_if_lt (tgt := 162) dX9_bear_43 (by decide) (fun h43 => ?_) (fun h43 => ?_)
    · skip
      rw [← show st1 = R from hR] at hK
      exact hK m1 _ _ _ hf hs
    · exact absurd (show zi (((0 : Nat) : Int) - 1) < 0 by rw [zl_0, zi_lt (by omega) (by omega)]; omega) h43 --end
  | succ c ih =>
    intro i m1 st1 y3 y4 hi hf hs hR
    rw [show (((c + 1 : Nat) : Int) - 1) = (c : Int) by omega]
    have e0 : ∀ x : Int, x = ((13 - p - q - c : Nat) : Int) - 1 → zi x = zi (((13 - p - q - c : Nat) : Int) - 1) := fun x h => by rw [h]
    refine wx_iload dX9_bear_41 rfl ?_
    refine wx_if_lt (tgt := 162) dX9_bear_43 (by decide) (fun h43 => ?_) (fun h43 => ?_)
    · exact absurd h43 (by rw [zl_0, zi_lt (by omega) (by omega)]; omega) --end
    · skip
      refine wx_bipush (v := 12) dX9_bear_46 (by decide) ?_
      refine wx_iload_n (i := 2) dX9_bear_48 rfl rfl ?_
      refine wx_isub dX9_bear_49 ?_
      refine wx_iload_n (i := 3) dX9_bear_50 rfl rfl ?_
      refine wx_isub dX9_bear_51 ?_
      refine wx_iload dX9_bear_52 rfl ?_
      refine wx_isub dX9_bear_54 ?_
      refine wx_istore dX9_bear_55 (Nat.le_of_ble_eq_true rfl) rfl ?_
      rw [show (12 : Int32) = zi 12 from rfl, zi_sub, zi_sub, zi_sub, e0 ((12 : Int) - (p : Int) - (q : Int) - (c : Int)) (by omega)]
      refine lp_bear_s hO hC (R := (zM2 p q c).foldl (zSq bd n) st1) (by omega) (fun m2 w0 w1 hf2 hs2 => ?hgo) (13 - p - q - c) 0 m1 st1 _ (by omega) hf hs rfl
      refine wx_inc (c := (-1)) dX9_bear_156 rfl (by decide) (Nat.le_of_ble_eq_true rfl) rfl ?_
      refine wx_goto (tgt := 41) dX9_bear_159 (by decide) ?_
      rw [show zi (c : Int) + (-1) = zi ((c : Int) - 1) from by rw [zm_1, zi_add]; rfl]
      exact ih (i + 1) m2 _ _ _ (by omega) hf2 hs2 (by rw [← hR]; show _ = (((c :: zDl c).flatMap (fun r => zM2 p q r))).foldl (zSq bd n) st1; rw [List.flatMap_cons, List.foldl_append])
theorem lp_bear_q {d : Nat} {K : List Value → zS → Prop} {mm : zM} {bd : Nat → Nat → Int} {n : Nat} (hO : zRo bd n) (hC : zMb bd n mm) {p : Nat} {v : Int32} {R : Int × List Nat} (hsum : p ≤ 12) (hK : ∀ (m2 : zM) (z0 z1 z2 z3 : Option Value), zFe mm m2 → zMs2 R m2 → wx (d + 2) mX9_bear 168 [some (.ref 128), some (.int v), some (.int (zi (p : Int))), z0, z1, z2, z3] [] (zG m2) K)  : ∀ (c i : Nat) (m1 : zM) (st1 : Int × List Nat) (y2 y3 y4 : Option Value), i + c = (13 - p) → (zFe mm m1) → (zMs2 st1 m1) → (((zDl c).flatMap (fun q => zM3 p q)).foldl (zSq bd n) st1 = R) → wx (d + 2) mX9_bear 29 [some (.ref 128), some (.int v), some (.int (zi (p : Int))), some (.int (zi ((c : Int) - 1))), y2, y3, y4] [] (zG m1) K := by
  intro c
  induction c with
  | zero =>
    intro i m1 st1 y2 y3 y4 hi hf hs hR
    obtain rfl : i = (13 - p) := by omega
    refine wx_iload_n (i := 3) dX9_bear_29 rfl rfl ?_
    refine wx_if_lt (tgt := 168) dX9_bear_30 (by decide) (fun h30 => ?_) (fun h30 => ?_)
    · skip
      rw [← show st1 = R from hR] at hK
      exact hK m1 _ _ _ _ hf hs
    · exact absurd (show zi (((0 : Nat) : Int) - 1) < 0 by rw [zl_0, zi_lt (by omega) (by omega)]; omega) h30 --end
  | succ c ih =>
    intro i m1 st1 y2 y3 y4 hi hf hs hR
    rw [show (((c + 1 : Nat) : Int) - 1) = (c : Int) by omega]
    have e0 : ∀ x : Int, x = ((13 - p - c : Nat) : Int) - 1 → zi x = zi (((13 - p - c : Nat) : Int) - 1) := fun x h => by rw [h]
    refine wx_iload_n (i := 3) dX9_bear_29 rfl rfl ?_
    refine wx_if_lt (tgt := 168) dX9_bear_30 (by decide) (fun h30 => ?_) (fun h30 => ?_)
    · exact absurd h30 (by rw [zl_0, zi_lt (by omega) (by omega)]; omega) --end
    · skip
      refine wx_bipush (v := 12) dX9_bear_33 (by decide) ?_
      refine wx_iload_n (i := 2) dX9_bear_35 rfl rfl ?_
      refine wx_isub dX9_bear_36 ?_
      refine wx_iload_n (i := 3) dX9_bear_37 rfl rfl ?_
      refine wx_isub dX9_bear_38 ?_
      refine wx_istore dX9_bear_39 (Nat.le_of_ble_eq_true rfl) rfl ?_
      rw [show (12 : Int32) = zi 12 from rfl, zi_sub, zi_sub, e0 ((12 : Int) - (p : Int) - (c : Int)) (by omega)]
      refine lp_bear_r hO hC (R := (zM3 p c).foldl (zSq bd n) st1) (by omega) (fun m2 w0 w1 w2 hf2 hs2 => ?hgo) (13 - p - c) 0 m1 st1 _ _ (by omega) hf hs rfl
      refine wx_inc (c := (-1)) dX9_bear_162 rfl (by decide) (Nat.le_of_ble_eq_true rfl) rfl ?_
      refine wx_goto (tgt := 29) dX9_bear_165 (by decide) ?_
      rw [show zi (c : Int) + (-1) = zi ((c : Int) - 1) from by rw [zm_1, zi_add]; rfl]
      exact ih (i + 1) m2 _ _ _ _ (by omega) hf2 hs2 (by rw [← hR]; show _ = (((c :: zDl c).flatMap (fun q => zM3 p q))).foldl (zSq bd n) st1; rw [List.flatMap_cons, List.foldl_append])
theorem lp_bear_p {d : Nat} {K : List Value → zS → Prop} {mm : zM} {bd : Nat → Nat → Int} {n : Nat} (hO : zRo bd n) (hC : zMb bd n mm) {v : Int32} {R : Int × List Nat} (hK : ∀ (m2 : zM) (z0 z1 z2 z3 z4 : Option Value), zFe mm m2 → zMs2 R m2 → wx (d + 2) mX9_bear 174 [some (.ref 128), some (.int v), z0, z1, z2, z3, z4] [] (zG m2) K)  : ∀ (c i : Nat) (m1 : zM) (st1 : Int × List Nat) (y1 y2 y3 y4 : Option Value), i + c = (13) → (zFe mm m1) → (zMs2 st1 m1) → (((zDl c).flatMap (fun p => zM4 p)).foldl (zSq bd n) st1 = R) → wx (d + 2) mX9_bear 20 [some (.ref 128), some (.int v), some (.int (zi ((c : Int) - 1))), y1, y2, y3, y4] [] (zG m1) K := by
  intro c
  induction c with
  | zero =>
    intro i m1 st1 y1 y2 y3 y4 hi hf hs hR
    obtain rfl : i = (13) := by omega
    refine wx_iload_n (i := 2) dX9_bear_20 rfl rfl ?_
    refine wx_if_lt (tgt := 174) dX9_bear_21 (by decide) (fun h21 => ?_) (fun h21 => ?_)
    · skip
      rw [← show st1 = R from hR] at hK
      exact hK m1 _ _ _ _ _ hf hs
    · exact absurd (show zi (((0 : Nat) : Int) - 1) < 0 by rw [zl_0, zi_lt (by omega) (by omega)]; omega) h21 --end
  | succ c ih =>
    intro i m1 st1 y1 y2 y3 y4 hi hf hs hR
    rw [show (((c + 1 : Nat) : Int) - 1) = (c : Int) by omega]
    have e0 : ∀ x : Int, x = ((13 - c : Nat) : Int) - 1 → zi x = zi (((13 - c : Nat) : Int) - 1) := fun x h => by rw [h]
    refine wx_iload_n (i := 2) dX9_bear_20 rfl rfl ?_
    refine wx_if_lt (tgt := 174) dX9_bear_21 (by decide) (fun h21 => ?_) (fun h21 => ?_)
    · exact absurd h21 (by rw [zl_0, zi_lt (by omega) (by omega)]; omega) --end
    · skip
      refine wx_bipush (v := 12) dX9_bear_24 (by decide) ?_
      refine wx_iload_n (i := 2) dX9_bear_26 rfl rfl ?_
      refine wx_isub dX9_bear_27 ?_
      refine wx_istore_n (i := 3) dX9_bear_28 rfl (Nat.le_of_ble_eq_true rfl) rfl ?_
      rw [show (12 : Int32) = zi 12 from rfl, zi_sub, e0 ((12 : Int) - (c : Int)) (by omega)]
      refine lp_bear_q hO hC (R := (zM4 c).foldl (zSq bd n) st1) (by omega) (fun m2 w0 w1 w2 w3 hf2 hs2 => ?hgo) (13 - c) 0 m1 st1 _ _ _ (by omega) hf hs rfl
      refine wx_inc (c := (-1)) dX9_bear_168 rfl (by decide) (Nat.le_of_ble_eq_true rfl) rfl ?_
      refine wx_goto (tgt := 20) dX9_bear_171 (by decide) ?_
      rw [show zi (c : Int) + (-1) = zi ((c : Int) - 1) from by rw [zm_1, zi_add]; rfl]
      exact ih (i + 1) m2 _ _ _ _ _ (by omega) hf2 hs2 (by rw [← hR]; show _ = (((c :: zDl c).flatMap (fun p => zM4 p))).foldl (zSq bd n) st1; rw [List.flatMap_cons, List.foldl_append])
