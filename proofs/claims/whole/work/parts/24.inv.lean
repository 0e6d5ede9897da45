/-! what holds between the calls: class and reference -/
/-- the bench of the class, in a, and of the reference, in b -/
def zBR (n k : Nat) (a b : zM) : Prop := (∀ z, z < 16 → a 18 z = b 129 z) ∧ (∀ z, z < 16 → a 19 z = b 130 z) ∧ (∀ t e, t < 3 → e < 5 → a (20 + 1 + t) e = b 135 (5 * t + e)) ∧ a 17 9 = b 128 13 ∧ a 17 8 = nI k ∧ b 128 14 = nI k ∧ k ≤ 60 ∧ ∀ j, j < k → (∃ t, t < 3 ∧ a 24 j = nI t ∧ b 136 j = nI t) ∧ (∃ w, w < n ∧ a 25 j = nI w ∧ b 137 j = nI w) ∧ a 26 j = b 138 j ∧ ∀ e, e < 5 → a (27 + 1 + j) e = b 139 (5 * j + e)
/-- the planner of the class, after b calls -/
def zPx (n b : Nat) (mm : zM) : Prop := mm 17 7 = nI n ∧ ∃ c : Int, mm 17 10 = zi c ∧ 0 ≤ c ∧ c ≤ 20 * (b : Int) ∧ ∀ t, t < 3 → ∃ e : Int, mm 95 t = zi e ∧ -1 ≤ e ∧ e ≤ c ∧ (e = c → zPVl n t mm)
def zJK (n : Nat) (mm : zM) : Prop := ∃ (g : Nat → Nat → Int) (L : Int), zKI g L (n - 1) mm ∧ zMd g L (n - 1) mm ∧ ∀ t i, n - 1 ≤ i → g t i = 5000
def zJW (n : Nat) (mm : zM) : Prop := ∃ (wi wj : Nat → Nat) (wv : Nat → Int) (q : Nat), zWO (n - 1) wi wj wv q ∧ zWC wi wj wv q mm ∧ zWM wi wj wv q mm
def zJB (n b : Nat) (mm : zM) : Prop := (∃ k, zBR n k mm mm) ∧ zPx n b mm
def zJR (n : Nat) (mm : zM) : Prop := ∃ bd : Nat → Nat → Int, zRI bd n mm ∧ zMb bd n mm ∧ ∃ t : List Nat, ∀ r, r < 6 → mm 150 r = nI (t.getD r 0)
def zJS (mm : zM) : Prop := ∃ (s : Nat → Int) (a : Int), zBd s a ∧ (∀ j, j < 8 → mm 115 j = zi (s j)) ∧ mm 114 2 = zi a ∧ (∀ j, j < 8 → mm 141 j = zi (s j)) ∧ mm 141 8 = zi a
def zJG (mm : zM) : Prop := ∃ (pt : Nat → Int) (tk : Nat → Nat) (q S : Nat), zGI pt tk q mm ∧ zMg pt tk q mm ∧ mm 117 4 = zi (S : Int) ∧ mm 128 24 = nI S ∧ S ≤ 100
def zJC (mm : zM) : Prop := ∃ R A B : Int, (100 ≤ R ∧ R ≤ 5000) ∧ (-30 ≤ A ∧ A ≤ 30) ∧ (1 ≤ B ∧ B ≤ 10) ∧ (mm 1 0 = zi R ∧ mm 1 1 = zi A ∧ mm 1 2 = zi B) ∧ mm 128 3 = zi R ∧ mm 128 4 = zi A ∧ mm 128 5 = zi B
/-- the script and how long it is -/
def zScr (sc : Nat → Int32) (ln : Nat) (mm : zM) : Prop := (∀ j, mm 154 j = sc j) ∧ mm 155 0 = nI ln
/-- what holds after b calls, n zones -/
def zIn (sc : Nat → Int32) (ln n b : Nat) (mm : zM) : Prop := (4 ≤ n ∧ n ≤ 16 ∧ b ≤ 1000 ∧ mm 0 8 = nI n ∧ mm 128 0 = nI n) ∧ zJK n mm ∧ zJW n mm ∧ zJB n b mm ∧ zJR n mm ∧ zJS mm ∧ zJG mm ∧ zJC mm ∧ zScr sc ln mm
def zInv (sc : Nat → Int32) (ln b : Nat) (mm : zM) : Prop := ∃ n, zIn sc ln n b mm
/-- the reference, called with these in m1, answers v too, and all is in order behind it -/
def zAgr (sc : Nat → Int32) (ln b d : Nat) (M : zMt) (av : List Value) (v : Value) (m1 : zM) : Prop := ∀ K' : List Value → zS → Prop, (∀ m2, zInv sc ln b m2 → K' [v] (zG m2)) → wm d M av (zG m1) K'
theorem zJK_fr {n : Nat} {mm m2 : zM} (h : zJK n mm) (f : (∀ c j, (c = 2 ∨ (4 ≤ c ∧ c ≤ 12) ∨ c = 131 ∨ c = 144 ∨ c = 145 ∨ (c = 128 ∧ (j = 7 ∨ j = 27)) ∨ (c = 128 ∧ j = 0)) → m2 c j = mm c j)) : zJK n m2 := by
  obtain ⟨g, L, ⟨h1, h2, h3, h4⟩, h5, h6⟩ := h
  refine ⟨g, L, ⟨h1, ⟨fun t i a b => ?_, ?_, ?_⟩, ?_, ?_⟩, ⟨fun t i a b => ?_, ?_, ?_⟩, h6⟩
  · rw [f _ _ (by omega)]; exact h2.1 t i a b
  · rw [f 2 7 (by omega)]; exact h2.2.1
  · rw [f 2 8 (by omega)]; exact h2.2.2
  · rw [f 7 0 (by omega)]; exact h3
  · rcases h4 with h4 | ⟨⟨k1, k2⟩, k3, k4, k, ⟨k5, k6, k7, k8⟩, k9⟩
    · exact Or.inl (by rw [f 2 11 (by omega)]; exact h4)
    · refine Or.inr ⟨⟨by rw [f 7 1 (by omega)]; exact k1, by rw [f 7 2 (by omega)]; exact k2⟩, fun i hi => by rw [f 8 i (by omega)]; exact k3 i hi, by rw [f 2 9 (by omega)]; exact k4, k, ⟨k5, k6, by rw [f 2 10 (by omega)]; exact k7, fun j hj => by rw [f 9 j (by omega)]; exact k8 j hj⟩, k9⟩
  · rw [f 131 _ (by omega)]; exact h5.1 t i a b
  · rw [f 128 7 (by omega)]; exact h5.2.1
  · rw [f 128 0 (by omega)]; exact h5.2.2
theorem zJW_fr {n : Nat} {mm m2 : zM} (h : zJW n mm) (f : (∀ c j, ((13 ≤ c ∧ c ≤ 16) ∨ (132 ≤ c ∧ c ≤ 134) ∨ (c = 128 ∧ j = 8) ∨ (c = 128 ∧ j = 0)) → m2 c j = mm c j)) : zJW n m2 := by
  obtain ⟨wi, wj, wv, q, h1, h2, h3⟩ := h
  exact ⟨wi, wj, wv, q, h1, ⟨by rw [f 13 4 (by omega)]; exact h2.1, fun k hk => ⟨by rw [f 14 k (by omega)]; exact (h2.2 k hk).1, by rw [f 15 k (by omega)]; exact (h2.2 k hk).2.1, by rw [f 16 k (by omega)]; exact (h2.2 k hk).2.2⟩⟩, ⟨by rw [f 128 8 (by omega)]; exact h3.1, fun k hk => ⟨by rw [f 132 k (by omega)]; exact (h3.2 k hk).1, by rw [f 133 k (by omega)]; exact (h3.2 k hk).2.1, by rw [f 134 k (by omega)]; exact (h3.2 k hk).2.2⟩⟩⟩
theorem zBR_a {n k : Nat} {a a2 b : zM} (h : zBR n k a b) (f : ∀ c j, 17 ≤ c → c ≤ 87 → a2 c j = a c j) : zBR n k a2 b := by
  obtain ⟨h1, h2, h3, h4, h5, h6, h7, h8⟩ := h
  refine ⟨fun z w => by rw [f 18 z (by omega) (by omega)]; exact h1 z w, fun z w => by rw [f 19 z (by omega) (by omega)]; exact h2 z w, fun t e u w => by rw [f (20 + 1 + t) e (by omega) (by omega)]; exact h3 t e u w, by rw [f 17 9 (by omega) (by omega)]; exact h4, by rw [f 17 8 (by omega) (by omega)]; exact h5, h6, h7, fun j hj => ?_⟩
  obtain ⟨⟨t, t1, t2, t3⟩, ⟨w, w1, w2, w3⟩, k1, k2⟩ := h8 j hj
  exact ⟨⟨t, t1, by rw [f 24 j (by omega) (by omega)]; exact t2, t3⟩, ⟨w, w1, by rw [f 25 j (by omega) (by omega)]; exact w2, w3⟩, by rw [f 26 j (by omega) (by omega)]; exact k1, fun e he => by rw [f (27 + 1 + j) e (by omega) (by omega)]; exact k2 e he⟩
theorem zBR_b {n k : Nat} {a b b2 : zM} (h : zBR n k a b) (f : ∀ c j, (c = 129 ∨ c = 130 ∨ (135 ≤ c ∧ c ≤ 139) ∨ (c = 128 ∧ (j = 13 ∨ j = 14))) → b2 c j = b c j) : zBR n k a b2 := by
  obtain ⟨h1, h2, h3, h4, h5, h6, h7, h8⟩ := h
  refine ⟨fun z w => by rw [f 129 z (by omega)]; exact h1 z w, fun z w => by rw [f 130 z (by omega)]; exact h2 z w, fun t e u w => by rw [f 135 _ (by omega)]; exact h3 t e u w, by rw [f 128 13 (by omega)]; exact h4, h5, by rw [f 128 14 (by omega)]; exact h6, h7, fun j hj => ?_⟩
  obtain ⟨⟨t, t1, t2, t3⟩, ⟨w, w1, w2, w3⟩, k1, k2⟩ := h8 j hj
  exact ⟨⟨t, t1, t2, by rw [f 136 j (by omega)]; exact t3⟩, ⟨w, w1, w2, by rw [f 137 j (by omega)]; exact w3⟩, by rw [f 138 j (by omega)]; exact k1, fun e he => by rw [f 139 _ (by omega)]; exact k2 e he⟩
theorem zPVl_fr {n t : Nat} {mm m2 : zM} (h : zPVl n t mm) (ht : t < 3) (f : ∀ c j, 17 ≤ c → c ≤ 97 → m2 c j = mm c j) : zPVl n t m2 := by
  have e1 : zPC n t m2 = zPC n t mm ∧ zPM n t m2 = zPM n t mm := by
    unfold zPC zPM
    rw [show m2 18 = mm 18 from funext fun j => f 18 j (by omega) (by omega), show m2 (20 + 1 + t) = mm (20 + 1 + t) from funext fun j => f _ j (by omega) (by omega), f 17 9 (by omega) (by omega)]
    exact ⟨rfl, rfl⟩
  refine ⟨by rw [f 88 8 (by omega) (by omega)]; exact h.1, by rw [e1.1, f 94 t (by omega) (by omega)]; exact h.2.1, ?_⟩
  rw [e1.1, e1.2]
  exact fun w z hz => by rw [f _ z (by omega) (by omega)]; exact h.2.2 w z hz
theorem zPx_fr {n b b2 : Nat} {mm m2 : zM} (h : zPx n b mm) (hb : b ≤ b2) (f : ∀ c j, 17 ≤ c → c ≤ 97 → m2 c j = mm c j) : zPx n b2 m2 := by
  obtain ⟨h1, c, h2, h3, h4, h5⟩ := h
  refine ⟨by rw [f 17 7 (by omega) (by omega)]; exact h1, c, by rw [f 17 10 (by omega) (by omega)]; exact h2, h3, by omega, fun t ht => ?_⟩
  obtain ⟨e, e1, e2, e3, e4⟩ := h5 t ht
  exact ⟨e, by rw [f 95 t (by omega) (by omega)]; exact e1, e2, e3, fun w => zPVl_fr (e4 w) ht f⟩
theorem zJB_fr {n b b2 : Nat} {mm m2 : zM} (h : zJB n b mm) (hb : b ≤ b2) (f : (∀ c j, ((17 ≤ c ∧ c ≤ 97) ∨ c = 129 ∨ c = 130 ∨ (135 ≤ c ∧ c ≤ 139) ∨ (146 ≤ c ∧ c ≤ 148) ∨ (c = 128 ∧ (j = 13 ∨ j = 14)) ∨ (c = 128 ∧ j = 0)) → m2 c j = mm c j)) : zJB n b2 m2 := by
  obtain ⟨⟨k, h1⟩, h2⟩ := h
  exact ⟨⟨k, zBR_a (zBR_b h1 (fun c j w => f c j (by omega))) (fun c j w1 w2 => f c j (by omega))⟩, zPx_fr h2 hb (fun c j w1 w2 => f c j (by omega))⟩
theorem zJR_fr {n : Nat} {mm m2 : zM} (h : zJR n mm) (f : (∀ c j, ((98 ≤ c ∧ c ≤ 113) ∨ c = 140 ∨ c = 149 ∨ c = 150 ∨ (c = 128 ∧ j = 33) ∨ (c = 128 ∧ j = 0)) → m2 c j = mm c j)) : zJR n m2 := by
  obtain ⟨bd, ⟨h1, h2, ⟨t1, h3⟩, h4⟩, h5, t, h6⟩ := h
  refine ⟨bd, ⟨h1, ⟨fun r z u v => by rw [f _ z (by omega)]; exact h2.1 r z u v, by rw [f 98 4 (by omega)]; exact h2.2⟩, ⟨t1, fun r hr => by rw [f 113 r (by omega)]; exact h3 r hr⟩, ?_⟩, ⟨fun r z u v => by rw [f 140 _ (by omega)]; exact h5.1 r z u v, by rw [f 128 0 (by omega)]; exact h5.2⟩, t, fun r hr => by rw [f 150 r (by omega)]; exact h6 r hr⟩
  rcases h4 with h4 | ⟨⟨k1, k2⟩, k3⟩
  · exact Or.inl (by rw [f 98 6 (by omega)]; exact h4)
  · exact Or.inr ⟨⟨by rw [f 98 5 (by omega)]; exact k1, k2⟩, fun r hr => by rw [f 113 r (by omega)]; exact k3 r hr⟩
theorem zJS_fr {mm m2 : zM} (h : zJS mm) (f : (∀ c j, ((114 ≤ c ∧ c ≤ 116) ∨ c = 141 ∨ c = 151 ∨ c = 152) → m2 c j = mm c j)) : zJS m2 := by
  obtain ⟨s, a, h1, h2, h3, h4, h5⟩ := h
  exact ⟨s, a, h1, fun j hj => by rw [f 115 j (by omega)]; exact h2 j hj, by rw [f 114 2 (by omega)]; exact h3, fun j hj => by rw [f 141 j (by omega)]; exact h4 j hj, by rw [f 141 8 (by omega)]; exact h5⟩
theorem zJG_fr {mm m2 : zM} (h : zJG mm) (f : (∀ c j, ((117 ≤ c ∧ c ≤ 127) ∨ c = 142 ∨ c = 143 ∨ c = 153 ∨ (c = 128 ∧ (j = 21 ∨ j = 24))) → m2 c j = mm c j)) : zJG m2 := by
  obtain ⟨pt, tk, q, S, ⟨h1, h2⟩, h3, h4, h5, h6⟩ := h
  have hq := h1.1
  refine ⟨pt, tk, q, S, ⟨zGc_of h1 (f 117 3 (by omega)) (funext fun j => f 118 j (by omega)) (funext fun j => f 119 j (by omega)), ?_⟩, ⟨h3.1, by rw [f 128 21 (by omega)]; exact h3.2.1, fun k hk => by rw [f 143 k (by omega)]; exact h3.2.2.1 k hk, fun k hk => by rw [f 142 k (by omega)]; exact h3.2.2.2 k hk⟩, by rw [f 117 4 (by omega)]; exact h4, by rw [f 128 24 (by omega)]; exact h5, h6⟩
  rcases h2 with h2 | ⟨R, h2⟩
  · exact Or.inl (by rw [f 117 5 (by omega)]; exact h2)
  · exact Or.inr ⟨R, fun u a b => ⟨(h2 u a b).1, fun x hx => by rw [f _ x (by omega)]; exact (h2 u a b).2 x hx⟩⟩
theorem zJC_fr {mm m2 : zM} (h : zJC mm) (f : (∀ c j, (c = 1 ∨ (c = 128 ∧ 3 ≤ j ∧ j ≤ 5)) → m2 c j = mm c j)) : zJC m2 := by
  obtain ⟨R, A, B, h1, h2, h3, ⟨k1, k2, k3⟩, k4, k5, k6⟩ := h
  exact ⟨R, A, B, h1, h2, h3, ⟨by rw [f 1 0 (by omega)]; exact k1, by rw [f 1 1 (by omega)]; exact k2, by rw [f 1 2 (by omega)]; exact k3⟩, by rw [f 128 3 (by omega)]; exact k4, by rw [f 128 4 (by omega)]; exact k5, by rw [f 128 5 (by omega)]; exact k6⟩
theorem zIn_K {sc : Nat → Int32} {ln n b : Nat} {mm m2 : zM} (h : zIn sc ln n b mm) (hb : b < 1000) (f : (∀ c j, ¬ (c = 2 ∨ (4 ≤ c ∧ c ≤ 12) ∨ c = 131 ∨ c = 144 ∨ c = 145 ∨ (c = 128 ∧ (j = 7 ∨ j = 27))) → m2 c j = mm c j)) (hX : zJK n m2) : zInv sc ln (b + 1) m2 := by
  obtain ⟨⟨h1, h2, h3, h4, h5⟩, hK, hW, hB, hR, hS, hG, hC, hZ⟩ := h
  exact ⟨n, ⟨h1, h2, by omega, by rw [f 0 8 (by omega)]; exact h4, by rw [f 128 0 (by omega)]; exact h5⟩, hX, zJW_fr hW (fun c j w => f c j (by omega)), zJB_fr hB (Nat.le_succ b) (fun c j w => f c j (by omega)), zJR_fr hR (fun c j w => f c j (by omega)), zJS_fr hS (fun c j w => f c j (by omega)), zJG_fr hG (fun c j w => f c j (by omega)), zJC_fr hC (fun c j w => f c j (by omega)), ⟨fun j => by rw [f 154 j (by omega)]; exact hZ.1 j, by rw [f 155 0 (by omega)]; exact hZ.2⟩⟩
theorem zIn_W {sc : Nat → Int32} {ln n b : Nat} {mm m2 : zM} (h : zIn sc ln n b mm) (hb : b < 1000) (f : (∀ c j, ¬ ((13 ≤ c ∧ c ≤ 16) ∨ (132 ≤ c ∧ c ≤ 134) ∨ (c = 128 ∧ j = 8)) → m2 c j = mm c j)) (hX : zJW n m2) : zInv sc ln (b + 1) m2 := by
  obtain ⟨⟨h1, h2, h3, h4, h5⟩, hK, hW, hB, hR, hS, hG, hC, hZ⟩ := h
  exact ⟨n, ⟨h1, h2, by omega, by rw [f 0 8 (by omega)]; exact h4, by rw [f 128 0 (by omega)]; exact h5⟩, zJK_fr hK (fun c j w => f c j (by omega)), hX, zJB_fr hB (Nat.le_succ b) (fun c j w => f c j (by omega)), zJR_fr hR (fun c j w => f c j (by omega)), zJS_fr hS (fun c j w => f c j (by omega)), zJG_fr hG (fun c j w => f c j (by omega)), zJC_fr hC (fun c j w => f c j (by omega)), ⟨fun j => by rw [f 154 j (by omega)]; exact hZ.1 j, by rw [f 155 0 (by omega)]; exact hZ.2⟩⟩
theorem zIn_B {sc : Nat → Int32} {ln n b : Nat} {mm m2 : zM} (h : zIn sc ln n b mm) (hb : b < 1000) (f : (∀ c j, ¬ ((17 ≤ c ∧ c ≤ 97) ∨ c = 129 ∨ c = 130 ∨ (135 ≤ c ∧ c ≤ 139) ∨ (146 ≤ c ∧ c ≤ 148) ∨ (c = 128 ∧ (j = 13 ∨ j = 14))) → m2 c j = mm c j)) (hX : zJB n (b + 1) m2) : zInv sc ln (b + 1) m2 := by
  obtain ⟨⟨h1, h2, h3, h4, h5⟩, hK, hW, hB, hR, hS, hG, hC, hZ⟩ := h
  exact ⟨n, ⟨h1, h2, by omega, by rw [f 0 8 (by omega)]; exact h4, by rw [f 128 0 (by omega)]; exact h5⟩, zJK_fr hK (fun c j w => f c j (by omega)), zJW_fr hW (fun c j w => f c j (by omega)), hX, zJR_fr hR (fun c j w => f c j (by omega)), zJS_fr hS (fun c j w => f c j (by omega)), zJG_fr hG (fun c j w => f c j (by omega)), zJC_fr hC (fun c j w => f c j (by omega)), ⟨fun j => by rw [f 154 j (by omega)]; exact hZ.1 j, by rw [f 155 0 (by omega)]; exact hZ.2⟩⟩
theorem zIn_R {sc : Nat → Int32} {ln n b : Nat} {mm m2 : zM} (h : zIn sc ln n b mm) (hb : b < 1000) (f : (∀ c j, ¬ ((98 ≤ c ∧ c ≤ 113) ∨ c = 140 ∨ c = 149 ∨ c = 150 ∨ (c = 128 ∧ j = 33)) → m2 c j = mm c j)) (hX : zJR n m2) : zInv sc ln (b + 1) m2 := by
  obtain ⟨⟨h1, h2, h3, h4, h5⟩, hK, hW, hB, hR, hS, hG, hC, hZ⟩ := h
  exact ⟨n, ⟨h1, h2, by omega, by rw [f 0 8 (by omega)]; exact h4, by rw [f 128 0 (by omega)]; exact h5⟩, zJK_fr hK (fun c j w => f c j (by omega)), zJW_fr hW (fun c j w => f c j (by omega)), zJB_fr hB (Nat.le_succ b) (fun c j w => f c j (by omega)), hX, zJS_fr hS (fun c j w => f c j (by omega)), zJG_fr hG (fun c j w => f c j (by omega)), zJC_fr hC (fun c j w => f c j (by omega)), ⟨fun j => by rw [f 154 j (by omega)]; exact hZ.1 j, by rw [f 155 0 (by omega)]; exact hZ.2⟩⟩
theorem zIn_S {sc : Nat → Int32} {ln n b : Nat} {mm m2 : zM} (h : zIn sc ln n b mm) (hb : b < 1000) (f : (∀ c j, ¬ ((114 ≤ c ∧ c ≤ 116) ∨ c = 141 ∨ c = 151 ∨ c = 152) → m2 c j = mm c j)) (hX : zJS  m2) : zInv sc ln (b + 1) m2 := by
  obtain ⟨⟨h1, h2, h3, h4, h5⟩, hK, hW, hB, hR, hS, hG, hC, hZ⟩ := h
  exact ⟨n, ⟨h1, h2, by omega, by rw [f 0 8 (by omega)]; exact h4, by rw [f 128 0 (by omega)]; exact h5⟩, zJK_fr hK (fun c j w => f c j (by omega)), zJW_fr hW (fun c j w => f c j (by omega)), zJB_fr hB (Nat.le_succ b) (fun c j w => f c j (by omega)), zJR_fr hR (fun c j w => f c j (by omega)), hX, zJG_fr hG (fun c j w => f c j (by omega)), zJC_fr hC (fun c j w => f c j (by omega)), ⟨fun j => by rw [f 154 j (by omega)]; exact hZ.1 j, by rw [f 155 0 (by omega)]; exact hZ.2⟩⟩
theorem zIn_G {sc : Nat → Int32} {ln n b : Nat} {mm m2 : zM} (h : zIn sc ln n b mm) (hb : b < 1000) (f : (∀ c j, ¬ ((117 ≤ c ∧ c ≤ 127) ∨ c = 142 ∨ c = 143 ∨ c = 153 ∨ (c = 128 ∧ (j = 21 ∨ j = 24))) → m2 c j = mm c j)) (hX : zJG  m2) : zInv sc ln (b + 1) m2 := by
  obtain ⟨⟨h1, h2, h3, h4, h5⟩, hK, hW, hB, hR, hS, hG, hC, hZ⟩ := h
  exact ⟨n, ⟨h1, h2, by omega, by rw [f 0 8 (by omega)]; exact h4, by rw [f 128 0 (by omega)]; exact h5⟩, zJK_fr hK (fun c j w => f c j (by omega)), zJW_fr hW (fun c j w => f c j (by omega)), zJB_fr hB (Nat.le_succ b) (fun c j w => f c j (by omega)), zJR_fr hR (fun c j w => f c j (by omega)), zJS_fr hS (fun c j w => f c j (by omega)), hX, zJC_fr hC (fun c j w => f c j (by omega)), ⟨fun j => by rw [f 154 j (by omega)]; exact hZ.1 j, by rw [f 155 0 (by omega)]; exact hZ.2⟩⟩
theorem zIn_C {sc : Nat → Int32} {ln n b : Nat} {mm m2 : zM} (h : zIn sc ln n b mm) (hb : b < 1000) (f : (∀ c j, ¬ (c = 1 ∨ (c = 128 ∧ 3 ≤ j ∧ j ≤ 5)) → m2 c j = mm c j)) (hX : zJC  m2) : zInv sc ln (b + 1) m2 := by
  obtain ⟨⟨h1, h2, h3, h4, h5⟩, hK, hW, hB, hR, hS, hG, hC, hZ⟩ := h
  exact ⟨n, ⟨h1, h2, by omega, by rw [f 0 8 (by omega)]; exact h4, by rw [f 128 0 (by omega)]; exact h5⟩, zJK_fr hK (fun c j w => f c j (by omega)), zJW_fr hW (fun c j w => f c j (by omega)), zJB_fr hB (Nat.le_succ b) (fun c j w => f c j (by omega)), zJR_fr hR (fun c j w => f c j (by omega)), zJS_fr hS (fun c j w => f c j (by omega)), zJG_fr hG (fun c j w => f c j (by omega)), hX, ⟨fun j => by rw [f 154 j (by omega)]; exact hZ.1 j, by rw [f 155 0 (by omega)]; exact hZ.2⟩⟩
theorem zIn_0 {sc : Nat → Int32} {ln n b : Nat} {mm : zM} (h : zIn sc ln n b mm) (hb : b < 1000) : zInv sc ln (b + 1) mm := zIn_C h hb (fun _ _ _ => rfl) h.2.2.2.2.2.2.2.1
