/-! the benches of both: how each call keeps them alike -/
theorem zHt_cg {n z : Nat} {m : Int32} {p q h g : Nat → Int32} (hh : ∀ i, i < 16 → h i = g i) (hp : ∀ e, e < 5 → p e = q e) : ∀ i, i < 16 → zHt n z m p h 5 i = zHt n z m q g 5 i := fun i hi => by
  unfold zHt
  by_cases w : i < n ∧ z ≤ i + 2 ∧ i + 2 < z + 5
  · rw [if_pos w, if_pos w, hh i hi, hp _ (by omega)]
  · rw [if_neg w, if_neg w, hh i hi]
theorem zHu_cg {n z : Nat} {p q h g : Nat → Int32} (hh : ∀ i, i < 16 → h i = g i) (hp : ∀ e, e < 5 → p e = q e) : ∀ i, i < 16 → zHu n z p h 5 i = zHu n z q g 5 i := fun i hi => by
  unfold zHu
  by_cases w : i < n ∧ z ≤ i + 2 ∧ i + 2 < z + 5
  · rw [if_pos w, if_pos w, hh i hi, hp _ (by omega)]
  · rw [if_neg w, if_neg w, hh i hi]
theorem zTk_cg {n z : Nat} {m : Int32} {p q : Nat → Int32} {e : Nat} (hp : p e = q e) : zTk n z m p e = zTk n z m q e := by
  unfold zTk
  rw [hp]
-- what a stroke leaves, cell by cell: the class
theorem zDo_18 {mm : zM} {n z t : Nat} {m : Int32} {k : Nat} : zDo mm n z t m k 18 = zHt n z m (mm (20 + 1 + t)) (mm 18) 5 := by
  unfold zDo
  rw [zU_ne (by decide), zU_ne (by decide), zU_ne (by decide), zU_ne (by decide), zU_ne (by decide)]
  unfold zSt
  exact if_pos rfl
theorem zDo_same {mm : zM} {n z t : Nat} {m : Int32} {k c j : Nat} (h : ¬ (c = 18 ∨ c = 27 + 1 + k ∨ ((c = 24 ∨ c = 25 ∨ c = 26) ∧ j = k) ∨ (c = 17 ∧ (j = 8 ∨ j = 10)))) : zDo mm n z t m k c j = mm c j := by
  unfold zDo
  rw [zU_off (by omega), zU_off (by omega), zU_off (by omega), zU_off (by omega), zU_off (by omega)]
  unfold zSt va_up
  rw [if_neg (by omega), if_neg (by omega)]
theorem zDo_tk {mm : zM} {n z t : Nat} {m : Int32} {k e : Nat} (he : e < 5) : zDo mm n z t m k (27 + 1 + k) e = zTk n z m (mm (20 + 1 + t)) e := by
  unfold zDo
  rw [zU_ne (by omega), zU_ne (by omega), zU_ne (by omega), zU_ne (by omega), zU_ne (by omega)]
  unfold zSt va_up
  rw [if_neg (by omega), if_pos rfl, if_pos he]
theorem zDo_24 {mm : zM} {n z t : Nat} {m : Int32} {k : Nat} : zDo mm n z t m k 24 k = nI t ∧ zDo mm n z t m k 25 k = nI z ∧ zDo mm n z t m k 26 k = m ∧ zDo mm n z t m k 17 10 = mm 17 10 + 1 := by
  unfold zDo
  refine ⟨?_, ?_, ?_, ?_⟩
  · rw [zU_ne (by decide), zU_ne (by decide), zU_ne (by decide), zU_ne (by decide), zU_same]
  · rw [zU_ne (by decide), zU_ne (by decide), zU_ne (by decide), zU_same]
  · rw [zU_ne (by decide), zU_ne (by decide), zU_same]
  · rw [zU_same]
-- and the reference
theorem zDoM_129 {mm : zM} {n z t : Nat} {m : Int32} {k : Nat} : zDoM mm n z t m k 129 = zHt n z m (zPm mm t) (mm 129) 5 := by
  unfold zDoM
  rw [zU_ne (by decide), zU_ne (by decide), zU_ne (by decide), zU_ne (by decide)]
  unfold zStM
  exact if_pos rfl
theorem zDoM_same {mm : zM} {n z t : Nat} {m : Int32} {k c j : Nat} (h : ¬ (c = 129 ∨ (c = 139 ∧ 5 * k ≤ j ∧ j < 5 * k + 5) ∨ ((c = 136 ∨ c = 137 ∨ c = 138) ∧ j = k) ∨ (c = 128 ∧ j = 14))) : zDoM mm n z t m k c j = mm c j := by
  unfold zDoM
  rw [zU_off (by omega), zU_off (by omega), zU_off (by omega), zU_off (by omega)]
  unfold zStM va_up
  rw [if_neg (by omega)]
  by_cases w : c = 139
  · subst w
    rw [if_pos rfl, if_neg (by omega)]
  · rw [if_neg w]
theorem zDoM_tk {mm : zM} {n z t : Nat} {m : Int32} {k e : Nat} (he : e < 5) : zDoM mm n z t m k 139 (5 * k + e) = zTk n z m (zPm mm t) e := by
  unfold zDoM
  rw [zU_ne (by omega), zU_ne (by omega), zU_ne (by omega), zU_ne (by omega)]
  unfold zStM va_up
  rw [if_neg (by omega), if_pos rfl, if_pos (by omega), show 5 * k + e - 5 * k = e by omega]
theorem zDoM_136 {mm : zM} {n z t : Nat} {m : Int32} {k : Nat} : zDoM mm n z t m k 136 k = nI t ∧ zDoM mm n z t m k 137 k = nI z ∧ zDoM mm n z t m k 138 k = m := by
  unfold zDoM
  refine ⟨?_, ?_, ?_⟩
  · rw [zU_ne (by decide), zU_ne (by decide), zU_ne (by decide), zU_same]
  · rw [zU_ne (by decide), zU_ne (by decide), zU_same]
  · rw [zU_ne (by decide), zU_same]
/-- a stroke done in both -/
theorem zBR_do {n k z t : Nat} {m : Int32} {a b : zM} (h : zBR n k a b) (hk : k < 60) (hz : z < n) (ht : t < 3) : zBR n (k + 1) (zDo a n z t m k) (zDoM b n z t m k) := by
  obtain ⟨h1, h2, h3, h4, h5, h6, h7, h8⟩ := h
  have hp : ∀ e, e < 5 → a (20 + 1 + t) e = zPm b t e := fun e he => h3 t e ht he
  refine ⟨fun i hi => ?_, fun i hi => ?_, fun t2 e u w => ?_, ?_, zDo_8, zDoM_14, by omega, fun j hj => ?_⟩
  · rw [zDo_18, zDoM_129]; exact zHt_cg h1 hp i hi
  · rw [zDo_same (by omega), zDoM_same (by omega)]; exact h2 i hi
  · rw [zDo_same (by omega), zDoM_same (by omega)]; exact h3 t2 e u w
  · rw [zDo_same (by omega), zDoM_same (by omega)]; exact h4
  · by_cases e : j = k
    · subst e
      exact ⟨⟨t, ht, zDo_24.1, zDoM_136.1⟩, ⟨z, hz, zDo_24.2.1, zDoM_136.2.1⟩, by rw [zDo_24.2.2.1, zDoM_136.2.2], fun e he => by rw [zDo_tk he, zDoM_tk he]; exact zTk_cg (hp e he)⟩
    · obtain ⟨⟨t2, k1, k2, k3⟩, ⟨w, k4, k5, k6⟩, k7, k8⟩ := h8 j (by omega)
      refine ⟨⟨t2, k1, ?_, ?_⟩, ⟨w, k4, ?_, ?_⟩, ?_, fun e he => ?_⟩
      · rw [zDo_same (by omega)]; exact k2
      · rw [zDoM_same (by omega)]; exact k3
      · rw [zDo_same (by omega)]; exact k5
      · rw [zDoM_same (by omega)]; exact k6
      · rw [zDo_same (by omega), zDoM_same (by omega)]; exact k7
      · rw [zDo_same (by omega), zDoM_same (by omega)]; exact k8 e he
theorem zUd_same {mm : zM} {n z k c j : Nat} (h : ¬ (c = 18 ∨ (c = 17 ∧ (j = 8 ∨ j = 10)))) : zUd mm n z k c j = mm c j := by
  unfold zUd
  rw [zU_off (by omega), zUn_off (by omega), zU_off (by omega)]
theorem zUdM_same {mm : zM} {n z k c j : Nat} (h : ¬ (c = 129 ∨ (c = 128 ∧ j = 14))) : zUdM mm n z k c j = mm c j := by
  unfold zUdM
  rw [zUn_off (by omega), zU_off (by omega)]
theorem zBR_undo {n k z : Nat} {a b : zM} (h : zBR n (k + 1) a b) : zBR n k (zUd a n z k) (zUdM b n z k) := by
  obtain ⟨h1, h2, h3, h4, h5, h6, h7, h8⟩ := h
  have h9 := (h8 k (by omega)).2.2.2
  refine ⟨fun i hi => ?_, fun i hi => ?_, fun t2 e u w => ?_, ?_, ?_, ?_, by omega, fun j hj => ?_⟩
  · show zUd a n z k 18 i = zUdM b n z k 129 i
    unfold zUd zUdM
    rw [zU_ne (by decide)]
    show zHu n z _ (zU a 17 8 (nI k) 18) 5 i = zHu n z _ (zU b 128 14 (nI k) 129) 5 i
    rw [zU_ne (by decide), zU_ne (by decide)]
    exact zHu_cg h1 h9 i hi
  · rw [zUd_same (by omega), zUdM_same (by omega)]; exact h2 i hi
  · rw [zUd_same (by omega), zUdM_same (by omega)]; exact h3 t2 e u w
  · rw [zUd_same (by omega), zUdM_same (by omega)]; exact h4
  · unfold zUd
    rw [zU_off (by decide), zUn_off (by decide), zU_same]
  · unfold zUdM
    rw [zUn_off (by decide), zU_same]
  · obtain ⟨⟨t2, k1, k2, k3⟩, ⟨w, k4, k5, k6⟩, k7, k8⟩ := h8 j (by omega)
    refine ⟨⟨t2, k1, ?_, ?_⟩, ⟨w, k4, ?_, ?_⟩, ?_, fun e he => ?_⟩
    · rw [zUd_same (by omega)]; exact k2
    · rw [zUdM_same (by omega)]; exact k3
    · rw [zUd_same (by omega)]; exact k5
    · rw [zUdM_same (by omega)]; exact k6
    · rw [zUd_same (by omega), zUdM_same (by omega)]; exact k7
    · rw [zUd_same (by omega), zUdM_same (by omega)]; exact k8 e he
/-- heights told anew: no strokes -/
theorem zBR_new {n : Nat} {a b : zM} (h1 : ∀ i, i < 16 → a 18 i = b 129 i) (h2 : ∀ i, i < 16 → a 19 i = b 130 i) (h3 : ∀ t e, t < 3 → e < 5 → a (20 + 1 + t) e = b 135 (5 * t + e)) (h4 : a 17 9 = b 128 13) (h5 : a 17 8 = 0) (h6 : b 128 14 = 0) : zBR n 0 a b := ⟨h1, h2, h3, h4, h5, h6, by omega, fun j hj => absurd hj (Nat.not_lt_zero j)⟩
theorem zSk_cg {mm m2 : zM} {n z : Nat} {m : Int32} {p q h g : Nat → Int32} (hn : n ≤ 16) (hh : ∀ i, i < 16 → h i = g i) (hp : ∀ e, e < 5 → p e = q e) : (∃ e, e < 5 ∧ zSk mm n z m p h e) ↔ ∃ e, e < 5 ∧ zSk m2 n z m q g e := by
  constructor
  · rintro ⟨e, e1, e2, e3⟩
    unfold zTh at e2
    refine ⟨e, e1, e2, ?_⟩
    rw [← hh _ (by omega), ← hp e e1]; exact e3
  · rintro ⟨e, e1, e2, e3⟩
    unfold zTh at e2
    refine ⟨e, e1, e2, ?_⟩
    rw [hh _ (by omega), hp e e1]; exact e3
theorem zMs_cg {f g : Nat → Int32} : ∀ {k}, (∀ j, j < k → f j = g j) → zMs f k = zMs g k
  | 0, _ => rfl
  | k + 1, h => by
    show zMs f k + f k = zMs g k + g k
    rw [zMs_cg (fun j hj => h j (by omega)), h k (by omega)]
theorem zRe_cg {n q z : Nat} {a b : zM} {x : Int32} (hn : n ≤ 16) (hz : z < 16) (h : zBR n q a b) : ∀ i, i ≤ q → zRe a z x i = zReM b z x i
  | 0, _ => rfl
  | i + 1, hi => by
    obtain ⟨h1, h2, h3, h4, h5, h6, h7, h8⟩ := id h
    obtain ⟨⟨t, k1, k2, k3⟩, ⟨w, k4, k5, k6⟩, k7, k8⟩ := h8 i (by omega)
    show zRe a z x i - a 26 i * zPu a (a 24 i).toNatClampNeg ((z : Int) - (a 25 i).toInt) = zReM b z x i - (if -2 ≤ (z : Int) - (b 137 i).toInt ∧ (z : Int) - (b 137 i).toInt ≤ 2 then b 138 i * b 135 (5 * (b 136 i).toNatClampNeg + ((z : Int) - (b 137 i).toInt + 2).toNat) else 0)
    rw [zRe_cg hn hz h i (by omega), k2, k3, k5, k6, k7, nI_clamp (by omega), nI_toInt (by omega)]
    congr 1
    unfold zPu
    by_cases c : -2 ≤ (z : Int) - (w : Int) ∧ (z : Int) - (w : Int) ≤ 2
    · rw [if_pos c, if_pos c, h3 t _ k1 (by omega)]
    · rw [if_neg c, if_neg c, Int32.mul_zero]
theorem zPx_up {n b : Nat} {mm m2 : zM} (h : zPx n b mm) (h7 : m2 17 7 = mm 17 7) {k : Nat} (hk : 1 ≤ k ∧ k ≤ 20) (hc : m2 17 10 = mm 17 10 + nI k) (h5 : ∀ t, t < 3 → m2 95 t = mm 95 t) : zPx n (b + 1) m2 := by
  obtain ⟨h1, c, h2, h3, h4, h6⟩ := h
  refine ⟨h7.trans h1, c + k, ?_, by omega, by omega, fun t ht => ?_⟩
  · rw [hc, h2, zi_nI, zi_add]
  · obtain ⟨e, e1, e2, e3, e4⟩ := h6 t ht
    exact ⟨e, (h5 t ht).trans e1, e2, by omega, fun w => by omega⟩
theorem zPx_PI {n b : Nat} {mm : zM} (h : zPx n b mm) (hn : 4 ≤ n ∧ n ≤ 16) (hb : b ≤ 1000) : zPI n mm := by
  obtain ⟨h1, c, h2, h3, h4, h6⟩ := h
  exact ⟨h1, hn.1, hn.2, c, h2, h3, by omega, h6⟩
theorem zPI_Px {n b : Nat} {mm m2 : zM} (h : zPx n b mm) (hb : b ≤ 1000) (f : zFq mm m2) (g : zPI n m2) : zPx n b m2 := by
  obtain ⟨h1, c, h2, h3, h4, h6⟩ := h
  obtain ⟨g1, g2, g3, c2, g4, g5, g6, g7⟩ := g
  have e : c2 = c := by
    rw [f 17 (by omega), h2, zi_eq (by omega) (by omega)] at g4
    omega
  exact ⟨g1, c, by rw [f 17 (by omega)]; exact h2, h3, h4, by rw [e] at g7; exact g7⟩
