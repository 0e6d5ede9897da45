/-! the tests of the reference, joined -/
theorem zDs_c (g : Nat → Nat → Int) (s : Nat → Int) (L : Int) (i : Nat) : (zDs g s L i 3).1 = (if g 0 i = 5000 then 0 else 1) + (if g 1 i = 5000 then 0 else 1) + (if g 2 i = 5000 then 0 else 1) := by
  have h : ∀ t, (zDs g s L i (t + 1)).1 = (zDs g s L i t).1 + (if g t i = 5000 then 0 else 1) := fun t => by
    by_cases q : g t i = 5000
    · rw [zDs_g q, if_pos q]; omega
    · rw [if_neg q]
      by_cases r : (zDs g s L i t).2.1 < zHo g s L i (g t i - s t - L) 3 ∨ (zHo g s L i (g t i - s t - L) 3 = (zDs g s L i t).2.1 ∧ g t i - s t - L < (zDs g s L i t).2.2)
      · rw [zDs_y q r]
      · rw [zDs_n q r]
  rw [h 2, h 1, h 0]
  show (0 : Int) + _ + _ + _ = _
  omega
/-- what is dropped of the first steps -/
def zDm (g : Nat → Nat → Int) (s : Nat → Int) (L : Int) : Nat → Int
  | 0 => 0
  | i + 1 => zDm g s L i + ((zDs g s L i 3).1 - (zDs g s L i 3).2.1)
theorem zDm_eq {g : Nat → Nat → Int} {s : Nat → Int} {L a b : Int} (hL : 0 ≤ L) (s0 : s 0 = 0) (s1 : s 1 = a) (s2 : s 2 = b) : ∀ n : Nat, zDm g s L n = zTl (g 0) n + zTl (g 1) n + zTl (g 2) n - zTs g n - zKp g L n a b
  | 0 => rfl
  | n + 1 => by
    have ih := zDm_eq (g := g) hL s0 s1 s2 n
    have hk := zDs_kept (g := g) hL s0 s1 s2 n
    have hc := zDs_c g s L n
    show zDm g s L n + ((zDs g s L n 3).1 - (zDs g s L n 3).2.1) = (zTl (g 0) n + (if g 0 n = 5000 then 0 else 1)) + (zTl (g 1) n + (if g 1 n = 5000 then 0 else 1)) + (zTl (g 2) n + (if g 2 n = 5000 then 0 else 1)) - (zTs g n + (if g 0 n = 5000 ∧ g 1 n = 5000 ∧ g 2 n = 5000 then 0 else 1)) - ((zSb (zAny g L a b) n + (zAny g L a b n).toNat + (zSb (zAll g L a b) n + (zAll g L a b n).toNat) : Nat) : Int)
    unfold zKp at ih
    omega
theorem zTl_ext {f : Nat → Int} {n : Nat} (h : ∀ i, n ≤ i → f i = 5000) : ∀ k : Nat, zTl f (n + k) = zTl f n
  | 0 => rfl
  | k + 1 => by
    rw [show n + (k + 1) = (n + k) + 1 from rfl, zTl_n (h (n + k) (by omega)), zTl_ext h k]
theorem zT3_n {g : Nat → Nat → Int} {n : Nat} (hn : n ≤ 15) (h : ∀ t i, n ≤ i → g t i = 5000) : zT3 g 3 = zTl (g 0) n + zTl (g 1) n + zTl (g 2) n := by
  have e : ∀ t, zTl (g t) 15 = zTl (g t) n := fun t => by
    have := zTl_ext (h t) (15 - n)
    rwa [show n + (15 - n) = 15 by omega] at this
  show 0 + zTl (g 0) 15 + zTl (g 1) 15 + zTl (g 2) 15 = _
  rw [e, e, e]
  omega
theorem zTl_b (f : Nat → Int) : ∀ n : Nat, 0 ≤ zTl f n ∧ zTl f n ≤ n
  | 0 => ⟨Int.le_refl _, Int.le_refl _⟩
  | n + 1 => by
    have h := zTl_b f n
    show 0 ≤ _ + _ ∧ _ + _ ≤ _
    by_cases q : f n = 5000
    · rw [if_pos q]; omega
    · rw [if_neg q]; omega
theorem zTs_b (g : Nat → Nat → Int) : ∀ n : Nat, 0 ≤ zTs g n ∧ zTs g n ≤ n
  | 0 => ⟨Int.le_refl _, Int.le_refl _⟩
  | n + 1 => by
    have h := zTs_b g n
    show 0 ≤ _ + _ ∧ _ + _ ≤ _
    by_cases q : g 0 n = 5000 ∧ g 1 n = 5000 ∧ g 2 n = 5000
    · rw [if_pos q]; omega
    · rw [if_neg q]; omega
theorem zDm_b {g : Nat → Nat → Int} {s : Nat → Int} {L : Int} (hO : zOk g s L) : ∀ n : Nat, -3 * (n : Int) ≤ zDm g s L n ∧ zDm g s L n ≤ 3 * (n : Int)
  | 0 => ⟨Int.le_refl _, Int.le_refl _⟩
  | n + 1 => by
    have h := zDm_b hO n
    have h2 := zDs_bd hO n 3
    show _ ≤ zDm g s L n + ((zDs g s L n 3).1 - (zDs g s L n 3).2.1) ∧ zDm g s L n + ((zDs g s L n 3).1 - (zDs g s L n 3).2.1) ≤ _
    omega
/-- what the reference holds of the tests -/
def zMd (g : Nat → Nat → Int) (L : Int) (n : Nat) (mm : zM) : Prop := (∀ t i, t < 3 → i < 15 → mm 131 (15 * t + i) = zi (g t i)) ∧ mm 128 7 = zi L ∧ mm 128 0 = nI (n + 1)
def zFm (mm m1 : zM) : Prop := ∀ c j, c ≠ 144 → c ≠ 145 → ¬ (c = 128 ∧ j = 27) → m1 c j = mm c j
theorem zFm_refl (mm : zM) : zFm mm mm := fun _ _ _ _ _ => rfl
theorem zFm_trans {a b c : zM} (h : zFm a b) (g : zFm b c) : zFm a c := fun x j u v w => (g x j u v w).trans (h x j u v w)
theorem zFm_U {a b : zM} (h : zFm a b) {v : Int32} : zFm a (zU b 128 27 v) := fun x j u v w => (zU_off w).trans (h x j u v w)
theorem zFm_4 {a b : zM} (h : zFm a b) {j : Nat} {v : Int32} : zFm a (zU b 144 j v) := fun x k u v w => (zU_off (fun z => u z.1)).trans (h x k u v w)
theorem zFm_5 {a b : zM} (h : zFm a b) {j : Nat} {v : Int32} : zFm a (zU b 145 j v) := fun x k u v w => (zU_off (fun z => v z.1)).trans (h x k u v w)
theorem zMd_fm {g : Nat → Nat → Int} {L : Int} {n : Nat} {mm m1 : zM} (h : zMd g L n mm) (f : zFm mm m1) : zMd g L n m1 := ⟨fun t i h1 h2 => by rw [f 131 _ (by decide) (by decide) (by omega)]; exact h.1 t i h1 h2, by rw [f 128 7 (by decide) (by decide) (by decide)]; exact h.2.1, by rw [f 128 0 (by decide) (by decide) (by decide)]; exact h.2.2⟩
def zSf (a b : Int) : Nat → Int := fun t => if t = 1 then a else if t = 2 then b else 0
theorem zMR_sf {g : Nat → Nat → Int} {L : Int} {n : Nat} {mm : zM} {a b : Int} (h : zMd g L n mm) (h0 : mm 144 0 = 0) (h1 : mm 144 1 = zi a) (h2 : mm 144 2 = zi b) : zMR g (zSf a b) L mm := by
  refine ⟨h.1, fun t ht => ?_, h.2.1⟩
  rcases (by omega : t = 0 ∨ t = 1 ∨ t = 2) with rfl | rfl | rfl
  · exact h0
  · exact h1
  · exact h2
theorem zOk_sf {g : Nat → Nat → Int} {L : Int} {n : Nat} {a b : Int} (h : zOg g L n) (ha : -20 ≤ a ∧ a ≤ 20) (hb : -20 ≤ b ∧ b ≤ 20) : zOk g (zSf a b) L := by
  refine ⟨h.1, fun t => ?_, h.2.1⟩
  unfold zSf
  by_cases h1 : t = 1
  · rw [if_pos h1]; exact ha
  · rw [if_neg h1]
    by_cases h2 : t = 2
    · rw [if_pos h2]; exact hb
    · rw [if_neg h2]; omega
/-- how the reference holds the best so far -/
def zJm (C : Int) (st : zJs) (k s x y : Int32) : Prop := match st with
  | none => k = 999 ∧ s = 999
  | some p => k = zi (C - p.1) ∧ s = zi p.2.1 ∧ x = zi p.2.2.1 ∧ y = zi p.2.2.2
theorem zM_y {C : Int} {f : Int → Int → Int} (hC : -500 ≤ C ∧ C ≤ 500) (hf : ∀ a b, 0 ≤ f a b ∧ f a b ≤ 100) {st : zJs} (hb : zJb st) {k s x y : Int32} (h : zJm C st k s x y) {a b : Int} (ha : -20 ≤ a ∧ a ≤ 20) (hbb : -20 ≤ b ∧ b ≤ 20) (hc : zi (C - f a b) < k ∨ (zi (C - f a b) = k ∧ ¬ s ≤ zi (zShz a b))) : zJm C (zJu f st a b) (zi (C - f a b)) (zi (zShz a b)) (zi a) (zi b) := by
  cases st with
  | none => exact ⟨rfl, rfl, rfl, rfl⟩
  | some p =>
    have hs : 0 ≤ zShz a b ∧ zShz a b ≤ 40 := by unfold zShz; omega
    have hfa := hf a b
    obtain ⟨b1, b2, b3, b4⟩ := hb
    obtain ⟨rfl, rfl, rfl, rfl⟩ := h
    rw [zi_lt (by omega) (by omega), zi_eq (by omega) (by omega), zi_le (by omega) (by omega)] at hc
    show zJm C (if p.1 < f a b ∨ (f a b = p.1 ∧ zShz a b < p.2.1) then some (f a b, zShz a b, a, b) else some p) _ _ _ _
    rw [if_pos (by omega)]
    exact ⟨rfl, rfl, rfl, rfl⟩
theorem zM_n {C : Int} {f : Int → Int → Int} (hC : -500 ≤ C ∧ C ≤ 500) (hf : ∀ a b, 0 ≤ f a b ∧ f a b ≤ 100) {st : zJs} (hb : zJb st) {k s x y : Int32} (h : zJm C st k s x y) {a b : Int} (ha : -20 ≤ a ∧ a ≤ 20) (hbb : -20 ≤ b ∧ b ≤ 20) (hc : ¬ zi (C - f a b) < k) (hd : ¬ (zi (C - f a b) = k ∧ ¬ s ≤ zi (zShz a b))) : zJm C (zJu f st a b) k s x y := by
  have hs : 0 ≤ zShz a b ∧ zShz a b ≤ 40 := by unfold zShz; omega
  have hfa := hf a b
  cases st with
  | none =>
    obtain ⟨rfl, rfl⟩ := h
    rw [zl_999, zi_lt (by omega) (by omega)] at hc
    exact absurd (by omega) hc
  | some p =>
    obtain ⟨b1, b2, b3, b4⟩ := hb
    obtain ⟨rfl, rfl, rfl, rfl⟩ := h
    rw [zi_lt (by omega) (by omega)] at hc
    rw [zi_eq (by omega) (by omega), zi_le (by omega) (by omega)] at hd
    show zJm C (if p.1 < f a b ∨ (f a b = p.1 ∧ zShz a b < p.2.1) then some (f a b, zShz a b, a, b) else some p) _ _ _ _
    rw [if_neg (by omega)]
    exact ⟨rfl, rfl, rfl, rfl⟩
theorem lp_jsum {d : Nat} {K : List Value → zS → Prop} {m1 : zM} {g : Nat → Nat → Int} {L : Int} {n : Nat} {s : Nat → Int} (hn : n ≤ 15) (hOk : zOk g s L) (hR : zMR g s L m1) (hz : m1 128 0 = nI (n + 1)) {x1 x2 x3 x4 : Int32} (hK : ∀ m2 : zM, (∀ c j, ¬ (c = 128 ∧ j = 27) → m2 c j = m1 c j) → wx (d + 4) mX9_joins 84 [some (.ref 128), some (.int x1), some (.int x2), some (.int x3), some (.int x4), some (.int (zi (zDm g s L n))), some (.int (nI n))] [] (zG m2) K) : ∀ (c i : Nat) (m2 : zM), i + c = n → (∀ c j, ¬ (c = 128 ∧ j = 27) → m2 c j = m1 c j) → wx (d + 4) mX9_joins 56 [some (.ref 128), some (.int x1), some (.int x2), some (.int x3), some (.int x4), some (.int (zi (zDm g s L i))), some (.int (nI i))] [] (zG m2) K := by
  intro c
  induction c with
  | zero =>
    intro i m2 hi hf
    obtain rfl : i = n := by omega
    refine wx_iload dX9_joins_56 rfl ?_
    refine wx_aload_n (i := 0) dX9_joins_58 rfl rfl ?_
    refine wx_getIG (k := 128) dX9_joins_59 zF_X9_7 zKo_128 rfl (Nat.le_of_ble_eq_true rfl) ?_
    refine wx_iconst (v := 1) dX9_joins_62 (by decide) ?_
    refine wx_isub dX9_joins_63 ?_
    refine wx_icmp_ge (tgt := 84) dX9_joins_64 (by decide) (fun h64 => ?_) (fun h64 => ?_)
    · skip
      exact hK m2 hf
    · exact absurd (zones_ge (x := m2 128 0) ((hf 128 0 (by decide)).trans hz) hn (Nat.le_refl _) (by omega)) h64 --end
  | succ c ih =>
    intro i m2 hi hf
    refine wx_iload dX9_joins_56 rfl ?_
    refine wx_aload_n (i := 0) dX9_joins_58 rfl rfl ?_
    refine wx_getIG (k := 128) dX9_joins_59 zF_X9_7 zKo_128 rfl (Nat.le_of_ble_eq_true rfl) ?_
    refine wx_iconst (v := 1) dX9_joins_62 (by decide) ?_
    refine wx_isub dX9_joins_63 ?_
    refine wx_icmp_ge (tgt := 84) dX9_joins_64 (by decide) (fun h64 => ?_) (fun h64 => ?_)
    · exact absurd h64 (zones_lt (x := m2 128 0) ((hf 128 0 (by decide)).trans hz) hn (by omega)) --end
    · skip
      refine wx_iload dX9_joins_67 rfl ?_
      refine wx_aload_n (i := 0) dX9_joins_69 rfl rfl ?_
      refine wx_iload dX9_joins_70 rfl ?_
      refine wx_V1 dX9_joins_72 zPV_X9_dropped zLk_X9_155 rfl (Nat.le_of_ble_eq_true rfl) (Nat.le_of_ble_eq_true rfl) (Or.inr rfl) ?_
      refine s_X9_dropped hOk ⟨fun t k u1 u2 => (hf 131 _ (by omega)).trans (hR.1 t k u1 u2), fun t u1 => (hf 144 t (by omega)).trans (hR.2.1 t u1), (hf 128 7 (by decide)).trans hR.2.2⟩ (by omega) ?_
      refine wx_r1 ?_
      refine wx_iadd dX9_joins_75 ?_
      refine wx_istore dX9_joins_76 (Nat.le_of_ble_eq_true rfl) rfl ?_
      refine wx_inc (c := 1) dX9_joins_78 rfl (by decide) (Nat.le_of_ble_eq_true rfl) rfl ?_
      refine wx_goto (tgt := 56) dX9_joins_81 (by decide) ?_
      rw [nI_1, zi_add]
      exact ih (i + 1) _ (by omega) (fun c j w => (zU_off w).trans (hf c j w))
theorem lp_jbody {d : Nat} {K : List Value → zS → Prop} {mm : zM} {g : Nat → Nat → Int} {L : Int} {n : Nat} (hO : zOg g L n) (hCb : -500 ≤ (zT3 g 3 - zTs g n) ∧ (zT3 g 3 - zTs g n) ≤ 500) {w i : Nat} (hw : w < 41) (hi : i < 41) {m3 : zM} {k s : Int32} {y6 : Option Value} (hf : zFm mm m3) (h0 : m3 144 0 = 0) (hj3 : zJm (zT3 g 3 - zTs g n) (zJi (zKp g L n) ((w : Int) - 20) (zJo (zKp g L n) w) i) k s (m3 145 1) (m3 145 2)) (hK : ∀ (m1 : zM) (k s : Int32) (y5 y6 : Option Value), zFm mm m1 → m1 144 0 = 0 → zJm (zT3 g 3 - zTs g n) (zJi (zKp g L n) ((w : Int) - 20) (zJo (zKp g L n) w) (i + 1)) k s (m1 145 1) (m1 145 2) → wx (d + 4) mX9_joins 28 [some (.ref 128), some (.int k), some (.int s), some (.int (zi ((w : Int) - 20))), some (.int (zi (((i + 1 : Nat) : Int) - 20))), y5, y6] [] (zG m1) K) : wx (d + 4) mX9_joins 84 [some (.ref 128), some (.int k), some (.int s), some (.int (zi ((w : Int) - 20))), some (.int (zi ((i : Int) - 20))), some (.int (zi ((zT3 g 3 - zTs g n) - zKp g L n ((w : Int) - 20) ((i : Int) - 20)))), y6] [] (zG m3) K := by
  refine wx_iload_n (i := 3) dX9_joins_84 rfl rfl ?_
  refine wx_S1 dX9_joins_85 zPS_X9_size zLk_X9_145 (Nat.le_of_ble_eq_true rfl) (Or.inr rfl) ?_
  refine s_X9_size _ ?_
  rw [zsz (by omega)]
  refine wx_r1 ?_
  refine wx_iload dX9_joins_88 rfl ?_
  refine wx_S1 dX9_joins_90 zPS_X9_size zLk_X9_145 (Nat.le_of_ble_eq_true rfl) (Or.inr rfl) ?_
  refine s_X9_size _ ?_
  rw [zsz (by omega)]
  refine wx_r1 ?_
  refine wx_iadd dX9_joins_93 ?_
  refine wx_istore dX9_joins_94 (Nat.le_of_ble_eq_true rfl) rfl ?_
  refine wx_iload dX9_joins_96 rfl ?_
  refine wx_iload_n (i := 1) dX9_joins_98 rfl rfl ?_
  refine wx_icmp_lt (tgt := 114) dX9_joins_99 (by decide) (fun h99 => ?_) (fun h99 => ?_)
  · have hd := zM_y hCb (fun a b => zKp_bd hO.2.2.2 a b) (zJi_b (fun a b => zKp_bd hO.2.2.2 a b) (zJo_b (fun a b => zKp_bd hO.2.2.2 a b) w (by omega)) (a := (w : Int) - 20) (by omega) i (by omega)) hj3 (a := (w : Int) - 20) (b := (i : Int) - 20) (by omega) (by omega) (Or.inl h99)
    refine wx_iload dX9_joins_114 rfl ?_
    refine wx_istore_n (i := 1) dX9_joins_116 rfl (Nat.le_of_ble_eq_true rfl) rfl ?_
    refine wx_iload dX9_joins_117 rfl ?_
    refine wx_istore_n (i := 2) dX9_joins_119 rfl (Nat.le_of_ble_eq_true rfl) rfl ?_
    refine wx_aload_n (i := 0) dX9_joins_120 rfl rfl ?_
    refine wx_getRG (k := 128) (t := 145) dX9_joins_121 zF_X9_77 zKo_128 rfl (Nat.le_of_ble_eq_true rfl) zRf_128_26 ?_
    refine wx_iconst (v := 1) dX9_joins_124 (by decide) ?_
    refine wx_iload_n (i := 3) dX9_joins_125 rfl rfl ?_
    refine wx_iastG (k := 145) (j := 1) dX9_joins_126 zK_145 (Nat.le_of_ble_eq_true rfl) rfl ?_ ?_
    · exact ⟨by omega, by decide⟩
    refine wx_aload_n (i := 0) dX9_joins_127 rfl rfl ?_
    refine wx_getRG (k := 128) (t := 145) dX9_joins_128 zF_X9_77 zKo_128 rfl (Nat.le_of_ble_eq_true rfl) zRf_128_26 ?_
    refine wx_iconst (v := 2) dX9_joins_131 (by decide) ?_
    refine wx_iload dX9_joins_132 rfl ?_
    refine wx_iastG (k := 145) (j := 2) dX9_joins_134 zK_145 (Nat.le_of_ble_eq_true rfl) rfl ?_ ?_
    · exact ⟨by omega, by decide⟩
    refine wx_inc (c := 1) dX9_joins_135 rfl (by decide) (Nat.le_of_ble_eq_true rfl) rfl ?_
    refine wx_goto (tgt := 28) dX9_joins_138 (by decide) ?_
    rw [show zi ((i : Int) - 20) + 1 = zi (((i + 1 : Nat) : Int) - 20) from by rw [zl_1, zi_add]; exact congrArg zi (by omega)]
    rw [show zi (((w : Int) - 20).natAbs : Int) + zi (((i : Int) - 20).natAbs : Int) = zi (zShz ((w : Int) - 20) ((i : Int) - 20)) from zi_add _ _]
    exact hK _ _ _ _ _ (zFm_5 (zFm_5 hf)) (by rw [zU_ne (by decide), zU_ne (by decide)]; exact h0) (by rw [zU_same, zU_off (by decide), zU_same]; exact hd)
  · skip
    refine wx_iload dX9_joins_102 rfl ?_
    refine wx_iload_n (i := 1) dX9_joins_104 rfl rfl ?_
    refine wx_icmp_ne (tgt := 135) dX9_joins_105 (by decide) (fun h105 => ?_) (fun h105 => ?_)
    · have hd := zM_n hCb (fun a b => zKp_bd hO.2.2.2 a b) (zJi_b (fun a b => zKp_bd hO.2.2.2 a b) (zJo_b (fun a b => zKp_bd hO.2.2.2 a b) w (by omega)) (a := (w : Int) - 20) (by omega) i (by omega)) hj3 (a := (w : Int) - 20) (b := (i : Int) - 20) (by omega) (by omega) h99 (fun u => h105 u.1)
      refine wx_inc (c := 1) dX9_joins_135 rfl (by decide) (Nat.le_of_ble_eq_true rfl) rfl ?_
      refine wx_goto (tgt := 28) dX9_joins_138 (by decide) ?_
      rw [show zi ((i : Int) - 20) + 1 = zi (((i + 1 : Nat) : Int) - 20) from by rw [zl_1, zi_add]; exact congrArg zi (by omega)]
      exact hK m3 k s _ _ hf h0 hd
    · skip
      refine wx_iload dX9_joins_108 rfl ?_
      refine wx_iload_n (i := 2) dX9_joins_110 rfl rfl ?_
      refine wx_icmp_ge (tgt := 135) dX9_joins_111 (by decide) (fun h111 => ?_) (fun h111 => ?_)
      · have hd := zM_n hCb (fun a b => zKp_bd hO.2.2.2 a b) (zJi_b (fun a b => zKp_bd hO.2.2.2 a b) (zJo_b (fun a b => zKp_bd hO.2.2.2 a b) w (by omega)) (a := (w : Int) - 20) (by omega) i (by omega)) hj3 (a := (w : Int) - 20) (b := (i : Int) - 20) (by omega) (by omega) h99 (fun u => u.2 (show s ≤ zi (zShz _ _) by unfold zShz; rw [← zi_add]; exact h111))
        refine wx_inc (c := 1) dX9_joins_135 rfl (by decide) (Nat.le_of_ble_eq_true rfl) rfl ?_
        refine wx_goto (tgt := 28) dX9_joins_138 (by decide) ?_
        rw [show zi ((i : Int) - 20) + 1 = zi (((i + 1 : Nat) : Int) - 20) from by rw [zl_1, zi_add]; exact congrArg zi (by omega)]
        exact hK m3 k s _ _ hf h0 hd
      · have hd := zM_y hCb (fun a b => zKp_bd hO.2.2.2 a b) (zJi_b (fun a b => zKp_bd hO.2.2.2 a b) (zJo_b (fun a b => zKp_bd hO.2.2.2 a b) w (by omega)) (a := (w : Int) - 20) (by omega) i (by omega)) hj3 (a := (w : Int) - 20) (b := (i : Int) - 20) (by omega) (by omega) (Or.inr ⟨h105, fun u => h111 (by rw [zi_add]; exact u)⟩)
        refine wx_iload dX9_joins_114 rfl ?_
        refine wx_istore_n (i := 1) dX9_joins_116 rfl (Nat.le_of_ble_eq_true rfl) rfl ?_
        refine wx_iload dX9_joins_117 rfl ?_
        refine wx_istore_n (i := 2) dX9_joins_119 rfl (Nat.le_of_ble_eq_true rfl) rfl ?_
        refine wx_aload_n (i := 0) dX9_joins_120 rfl rfl ?_
        refine wx_getRG (k := 128) (t := 145) dX9_joins_121 zF_X9_77 zKo_128 rfl (Nat.le_of_ble_eq_true rfl) zRf_128_26 ?_
        refine wx_iconst (v := 1) dX9_joins_124 (by decide) ?_
        refine wx_iload_n (i := 3) dX9_joins_125 rfl rfl ?_
        refine wx_iastG (k := 145) (j := 1) dX9_joins_126 zK_145 (Nat.le_of_ble_eq_true rfl) rfl ?_ ?_
        · exact ⟨by omega, by decide⟩
        refine wx_aload_n (i := 0) dX9_joins_127 rfl rfl ?_
        refine wx_getRG (k := 128) (t := 145) dX9_joins_128 zF_X9_77 zKo_128 rfl (Nat.le_of_ble_eq_true rfl) zRf_128_26 ?_
        refine wx_iconst (v := 2) dX9_joins_131 (by decide) ?_
        refine wx_iload dX9_joins_132 rfl ?_
        refine wx_iastG (k := 145) (j := 2) dX9_joins_134 zK_145 (Nat.le_of_ble_eq_true rfl) rfl ?_ ?_
        · exact ⟨by omega, by decide⟩
        refine wx_inc (c := 1) dX9_joins_135 rfl (by decide) (Nat.le_of_ble_eq_true rfl) rfl ?_
        refine wx_goto (tgt := 28) dX9_joins_138 (by decide) ?_
        rw [show zi ((i : Int) - 20) + 1 = zi (((i + 1 : Nat) : Int) - 20) from by rw [zl_1, zi_add]; exact congrArg zi (by omega)]
        rw [show zi (((w : Int) - 20).natAbs : Int) + zi (((i : Int) - 20).natAbs : Int) = zi (zShz ((w : Int) - 20) ((i : Int) - 20)) from zi_add _ _]
        exact hK _ _ _ _ _ (zFm_5 (zFm_5 hf)) (by rw [zU_ne (by decide), zU_ne (by decide)]; exact h0) (by rw [zU_same, zU_off (by decide), zU_same]; exact hd)
theorem lp_j2 {d : Nat} {K : List Value → zS → Prop} {mm : zM} {g : Nat → Nat → Int} {L : Int} {n : Nat} (hO : zOg g L n) (hM : zMd g L n mm) (hg5 : ∀ t i, n ≤ i → g t i = 5000) (hCb : -500 ≤ (zT3 g 3 - zTs g n) ∧ (zT3 g 3 - zTs g n) ≤ 500) {w : Nat} (hw : w < 41) (hK : ∀ (m1 : zM) (k s : Int32) (y4 y5 y6 : Option Value) (hf : zFm mm m1) (h0 : m1 144 0 = 0) (hj : zJm (zT3 g 3 - zTs g n) (zJo (zKp g L n) (w + 1)) k s (m1 145 1) (m1 145 2)), wx (d + 4) mX9_joins 18 [some (.ref 128), some (.int k), some (.int s), some (.int (zi (((w + 1 : Nat) : Int) - 20))), y4, y5, y6] [] (zG m1) K) : ∀ (c i : Nat) (m1 : zM) (k s : Int32) (y5 y6 : Option Value), i + c = 41 → (zFm mm m1) → (m1 144 0 = 0) → (zJm (zT3 g 3 - zTs g n) (zJi (zKp g L n) ((w : Int) - 20) (zJo (zKp g L n) w) i) k s (m1 145 1) (m1 145 2)) → wx (d + 4) mX9_joins 28 [some (.ref 128), some (.int k), some (.int s), some (.int (zi ((w : Int) - 20))), some (.int (zi ((i : Int) - 20))), y5, y6] [] (zG m1) K := by
  intro c
  induction c with
  | zero =>
    intro i m1 k s y5 y6 hi hf h0 hj
    obtain rfl : i = 41 := by omega
    refine wx_iload dX9_joins_28 rfl ?_
    refine wx_bipush (v := 20) dX9_joins_30 (by decide) ?_
    refine wx_icmp_gt (tgt := 141) dX9_joins_32 (by decide) (fun h32 => ?_) (fun h32 => ?_)
    · skip
      refine wx_inc (c := 1) dX9_joins_141 rfl (by decide) (Nat.le_of_ble_eq_true rfl) rfl ?_
      refine wx_goto (tgt := 18) dX9_joins_144 (by decide) ?_
      rw [zl_1, zi_add, show (w : Int) - 20 + 1 = ((w + 1 : Nat) : Int) - 20 by omega]
      exact hK m1 k s _ _ _ hf h0 hj
    · exact absurd (show (20 : Int32) < zi _ by rw [show (20 : Int32) = zi 20 from rfl, zi_lt (by omega) (by omega)]; omega) h32 --end
  | succ c ih =>
    intro i m1 k s y5 y6 hi hf h0 hj
    refine wx_iload dX9_joins_28 rfl ?_
    refine wx_bipush (v := 20) dX9_joins_30 (by decide) ?_
    refine wx_icmp_gt (tgt := 141) dX9_joins_32 (by decide) (fun h32 => ?_) (fun h32 => ?_)
    · exact absurd h32 (by rw [show (20 : Int32) = zi 20 from rfl, zi_lt (by omega) (by omega)]; omega) --end
    · skip
      refine wx_aload_n (i := 0) dX9_joins_35 rfl rfl ?_
      refine wx_getRG (k := 128) (t := 144) dX9_joins_36 zF_X9_74 zKo_128 rfl (Nat.le_of_ble_eq_true rfl) zRf_128_25 ?_
      refine wx_iconst (v := 1) dX9_joins_39 (by decide) ?_
      refine wx_iload_n (i := 3) dX9_joins_40 rfl rfl ?_
      refine wx_iastG (k := 144) (j := 1) dX9_joins_41 zK_144 (Nat.le_of_ble_eq_true rfl) rfl ?_ ?_
      · exact ⟨by omega, by decide⟩
      refine wx_aload_n (i := 0) dX9_joins_42 rfl rfl ?_
      refine wx_getRG (k := 128) (t := 144) dX9_joins_43 zF_X9_74 zKo_128 rfl (Nat.le_of_ble_eq_true rfl) zRf_128_25 ?_
      refine wx_iconst (v := 2) dX9_joins_46 (by decide) ?_
      refine wx_iload dX9_joins_47 rfl ?_
      refine wx_iastG (k := 144) (j := 2) dX9_joins_49 zK_144 (Nat.le_of_ble_eq_true rfl) rfl ?_ ?_
      · exact ⟨by omega, by decide⟩
      refine wx_iconst (v := 0) dX9_joins_50 (by decide) ?_
      refine wx_istore dX9_joins_51 (Nat.le_of_ble_eq_true rfl) rfl ?_
      refine wx_iconst (v := 0) dX9_joins_53 (by decide) ?_
      refine wx_istore dX9_joins_54 (Nat.le_of_ble_eq_true rfl) rfl ?_
      have hsum : zDm g (zSf ((w : Int) - 20) ((i : Int) - 20)) L n = zT3 g 3 - zTs g n - zKp g L n ((w : Int) - 20) ((i : Int) - 20) := by rw [zT3_n hO.2.2.2 hg5]; exact zDm_eq (g := g) (s := zSf ((w : Int) - 20) ((i : Int) - 20)) (a := (w : Int) - 20) (b := (i : Int) - 20) hO.2.1.1 rfl rfl rfl n
      have hFm := zFm_4 (zFm_4 hf (j := 1) (v := zi ((w : Int) - 20))) (j := 2) (v := zi ((i : Int) - 20))
      have hMd := zMd_fm hM hFm
      refine lp_jsum (s := zSf ((w : Int) - 20) ((i : Int) - 20)) hO.2.2.2 (zOk_sf hO (by omega) (by omega)) (zMR_sf hMd (by rw [zU_off (by decide), zU_off (by decide)]; exact h0) (by rw [zU_off (by decide), zU_same]) (zU_same _ _ _ _)) hMd.2.2 (fun m3 hf3 => ?_) n 0 _ (by omega) (fun _ _ _ => rfl)
      rw [hsum]
      refine lp_jbody hO hCb hw (by omega) (fun c j u v w => (hf3 c j w).trans (hFm c j u v w)) ?_ ?_ (fun m1 k s y5 y6 a1 a2 a3 => ih (i + 1) m1 k s y5 y6 (by omega) a1 a2 a3)
      · rw [hf3 144 0 (by decide), zU_off (by decide), zU_off (by decide)]; exact h0
      · rw [hf3 145 1 (by decide), hf3 145 2 (by decide), zU_ne (by decide), zU_ne (by decide)]; exact hj
theorem lp_j1 {d : Nat} {K : List Value → zS → Prop} {mm : zM} {g : Nat → Nat → Int} {L : Int} {n : Nat} (hO : zOg g L n) (hM : zMd g L n mm) (hg5 : ∀ t i, n ≤ i → g t i = 5000) (hCb : -500 ≤ (zT3 g 3 - zTs g n) ∧ (zT3 g 3 - zTs g n) ≤ 500) (hK : ∀ (m2 : zM) (hf : zFm mm m2) (hR : zMR g (zSh g L n) L m2) (h1 : m2 145 1 = zi (zBj g L n).2.2.1) (h2 : m2 145 2 = zi (zBj g L n).2.2.2), K [.int (zi ((zT3 g 3 - zTs g n) - (zBj g L n).1))] (zG m2)) : ∀ (c i : Nat) (m1 : zM) (k s : Int32) (y4 y5 y6 : Option Value), i + c = 41 → (zFm mm m1) → (m1 144 0 = 0) → (zJm (zT3 g 3 - zTs g n) (zJo (zKp g L n) i) k s (m1 145 1) (m1 145 2)) → wx (d + 4) mX9_joins 18 [some (.ref 128), some (.int k), some (.int s), some (.int (zi ((i : Int) - 20))), y4, y5, y6] [] (zG m1) K := by
  intro c
  induction c with
  | zero =>
    intro i m1 k s y4 y5 y6 hi hf h0 hj
    obtain rfl : i = 41 := by omega
    refine wx_iload_n (i := 3) dX9_joins_18 rfl rfl ?_
    refine wx_bipush (v := 20) dX9_joins_19 (by decide) ?_
    refine wx_icmp_gt (tgt := 147) dX9_joins_21 (by decide) (fun h21 => ?_) (fun h21 => ?_)
    · skip
      refine wx_aload_n (i := 0) dX9_joins_147 rfl rfl ?_
      refine wx_getRG (k := 128) (t := 144) dX9_joins_148 zF_X9_74 zKo_128 rfl (Nat.le_of_ble_eq_true rfl) zRf_128_25 ?_
      refine wx_iconst (v := 1) dX9_joins_151 (by decide) ?_
      refine wx_aload_n (i := 0) dX9_joins_152 rfl rfl ?_
      refine wx_getRG (k := 128) (t := 145) dX9_joins_153 zF_X9_77 zKo_128 rfl (Nat.le_of_ble_eq_true rfl) zRf_128_26 ?_
      refine wx_iconst (v := 1) dX9_joins_156 (by decide) ?_
      refine wx_ialdG (k := 145) (j := 1) dX9_joins_157 zK_145 (Nat.le_of_ble_eq_true rfl) rfl ?_ ?_
      · exact ⟨by omega, by decide⟩
      refine wx_iastG (k := 144) (j := 1) dX9_joins_158 zK_144 (Nat.le_of_ble_eq_true rfl) rfl ?_ ?_
      · exact ⟨by omega, by decide⟩
      refine wx_aload_n (i := 0) dX9_joins_159 rfl rfl ?_
      refine wx_getRG (k := 128) (t := 144) dX9_joins_160 zF_X9_74 zKo_128 rfl (Nat.le_of_ble_eq_true rfl) zRf_128_25 ?_
      refine wx_iconst (v := 2) dX9_joins_163 (by decide) ?_
      refine wx_aload_n (i := 0) dX9_joins_164 rfl rfl ?_
      refine wx_getRG (k := 128) (t := 145) dX9_joins_165 zF_X9_77 zKo_128 rfl (Nat.le_of_ble_eq_true rfl) zRf_128_26 ?_
      refine wx_iconst (v := 2) dX9_joins_168 (by decide) ?_
      refine wx_ialdG (k := 145) (j := 2) dX9_joins_169 zK_145 (Nat.le_of_ble_eq_true rfl) rfl ?_ ?_
      · exact ⟨by omega, by decide⟩
      refine wx_iastG (k := 144) (j := 2) dX9_joins_170 zK_144 (Nat.le_of_ble_eq_true rfl) rfl ?_ ?_
      · exact ⟨by omega, by decide⟩
      refine wx_iload_n (i := 1) dX9_joins_171 rfl rfl ?_
      refine wx_iret dX9_joins_172 rfl rfl (Or.inl rfl) ?_
      rw [zBj_eq] at hj
      refine zki (hK _ (zFm_4 (zFm_4 hf)) (zMR_sf (zMd_fm hM (zFm_4 (zFm_4 hf))) ?_ ?_ ?_) ?_ ?_) hj.1.symm
      · rw [zU_off (by decide), zU_off (by decide)]; exact h0
      · rw [zU_off (by decide), zU_same]; exact hj.2.2.1
      · rw [zU_same, zU_ne (by decide)]; exact hj.2.2.2
      · rw [zU_ne (by decide), zU_ne (by decide)]; exact hj.2.2.1
      · rw [zU_ne (by decide), zU_ne (by decide)]; exact hj.2.2.2
    · exact absurd (show (20 : Int32) < zi _ by rw [show (20 : Int32) = zi 20 from rfl, zi_lt (by omega) (by omega)]; omega) h21 --end
  | succ c ih =>
    intro i m1 k s y4 y5 y6 hi hf h0 hj
    refine wx_iload_n (i := 3) dX9_joins_18 rfl rfl ?_
    refine wx_bipush (v := 20) dX9_joins_19 (by decide) ?_
    refine wx_icmp_gt (tgt := 147) dX9_joins_21 (by decide) (fun h21 => ?_) (fun h21 => ?_)
    · exact absurd h21 (by rw [show (20 : Int32) = zi 20 from rfl, zi_lt (by omega) (by omega)]; omega) --end
    · skip
      refine wx_bipush (v := (-20)) dX9_joins_24 (by decide) ?_
      refine wx_istore dX9_joins_26 (Nat.le_of_ble_eq_true rfl) rfl ?_
      exact lp_j2 hO hM hg5 hCb (w := i) (by omega) (fun m2 k2 s2 y4 y5 y6 hf2 h02 hj2 => ih (i + 1) m2 k2 s2 y4 y5 y6 (by omega) hf2 h02 hj2) 41 0 m1 k s _ _ (by omega) hf h0 hj
theorem s_X9_joins {d : Nat} {K : List Value → zS → Prop} {mm : zM} {g : Nat → Nat → Int} {L : Int} {n : Nat} (hO : zOg g L n) (hM : zMd g L n mm) (hg5 : ∀ t i, n ≤ i → g t i = 5000) (hK : ∀ (m2 : zM) (hf : zFm mm m2) (hR : zMR g (zSh g L n) L m2) (h1 : m2 145 1 = zi (zBj g L n).2.2.1) (h2 : m2 145 2 = zi (zBj g L n).2.2.2), K [.int (zi ((zT3 g 3 - zTs g n) - (zBj g L n).1))] (zG m2)) : wm (d + 4) mX9_joins [.ref 128] (zG mm) K := by
  refine wm_of2 (L0 := [some (.ref 128), none, none, none, none, none, none]) zCm_X9_joins (Or.inl rfl) (Nat.le_of_ble_eq_true rfl) rfl ?_
  refine wx_sipush (v := 999) dX9_joins_0 (by decide) ?_
  refine wx_istore_n (i := 1) dX9_joins_3 rfl (Nat.le_of_ble_eq_true rfl) rfl ?_
  refine wx_sipush (v := 999) dX9_joins_4 (by decide) ?_
  refine wx_istore_n (i := 2) dX9_joins_7 rfl (Nat.le_of_ble_eq_true rfl) rfl ?_
  refine wx_aload_n (i := 0) dX9_joins_8 rfl rfl ?_
  refine wx_getRG (k := 128) (t := 144) dX9_joins_9 zF_X9_74 zKo_128 rfl (Nat.le_of_ble_eq_true rfl) zRf_128_25 ?_
  refine wx_iconst (v := 0) dX9_joins_12 (by decide) ?_
  refine wx_iconst (v := 0) dX9_joins_13 (by decide) ?_
  refine wx_iastG (k := 144) (j := 0) dX9_joins_14 zK_144 (Nat.le_of_ble_eq_true rfl) rfl ?_ ?_
  · exact ⟨by omega, by decide⟩
  refine wx_bipush (v := (-20)) dX9_joins_15 (by decide) ?_
  refine wx_istore_n (i := 3) dX9_joins_17 rfl (Nat.le_of_ble_eq_true rfl) rfl ?_
  have hCb : -500 ≤ zT3 g 3 - zTs g n ∧ zT3 g 3 - zTs g n ≤ 500 := by
    have b0 := zTl_b (g 0) n
    have b1 := zTl_b (g 1) n
    have b2 := zTl_b (g 2) n
    have b3 := zTs_b g n
    have hn := hO.2.2.2
    rw [zT3_n hn hg5]
    omega
  exact lp_j1 hO hM hg5 hCb hK 41 0 _ _ _ _ _ _ (by omega) (zFm_4 (zFm_refl mm)) (zU_same _ _ _ _) ⟨rfl, rfl⟩
