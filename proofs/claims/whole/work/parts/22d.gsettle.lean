/-! the grits of the class: settle -/
/-- a further step of wets that a row may come from -/
def zGw (pt : Nat → Int) (tk : Nat → Nat) (R : Nat → Nat → Nat) (u nx t w : Nat) : Prop := t < 2101 ∧ R (nx + 1) t < 1000 ∧ 1 ≤ w ∧ w ≤ 30 ∧ zCe pt u ((w * tk nx : Nat) : Int)
/-- row r of u, the grits from u up to b being brought in, out of row r0 -/
def zGi (pt : Nat → Int) (tk : Nat → Nat) (R : Nat → Nat → Nat) (u : Nat) (r0 r : Nat → Nat) (b : Nat) : Prop := (∀ x, r x ≤ r0 x) ∧ (∀ nx t w, u ≤ nx → nx < b → zGw pt tk R u nx t w → t + w * tk nx < 2101 → r (t + w * tk nx) ≤ R (nx + 1) t + w) ∧ (∀ x, r x = r0 x ∨ ∃ nx t w, u ≤ nx ∧ nx < b ∧ zGw pt tk R u nx t w ∧ x = t + w * tk nx ∧ r x = R (nx + 1) t + w)
theorem zGi_0 (pt : Nat → Int) (tk : Nat → Nat) (R : Nat → Nat → Nat) (u : Nat) (r0 : Nat → Nat) : zGi pt tk R u r0 r0 u := ⟨fun _ => Nat.le_refl _, fun nx t w h1 h2 => absurd h2 (by omega), fun _ => Or.inl rfl⟩
theorem zGi_s {pt : Nat → Int} {tk : Nat → Nat} {R : Nat → Nat → Nat} {u b : Nat} {r0 r r2 : Nat → Nat} (h : zGi pt tk R u r0 r b) (hb : u ≤ b) (g : zBb (zCe pt u) (tk b) (R (b + 1)) r r2 2101) : zGi pt tk R u r0 r2 (b + 1) := by
  refine ⟨fun x => Nat.le_trans (g.1 x) (h.1 x), fun nx t w h1 h2 h3 h4 => ?_, fun x => ?_⟩
  · by_cases e : nx = b
    · subst e
      exact g.2.1 t w h3.1 h3.2.1 h3.2.2.1 h3.2.2.2.1 h3.2.2.2.2 h4
    · exact Nat.le_trans (g.1 _) (h.2.1 nx t w h1 (by omega) h3 h4)
  · rcases g.2.2 x with e | ⟨t, w, a1, a2, a3, a4, a5, a6, a7⟩
    · rcases h.2.2 x with q | ⟨nx, t, w, q1, q2, q3, q4, q5⟩
      · exact Or.inl (e.trans q)
      · exact Or.inr ⟨nx, t, w, q1, by omega, q3, q4, e.trans q5⟩
    · exact Or.inr ⟨b, t, w, hb, by omega, ⟨a1, a2, a3, a4, a5⟩, a6, a7⟩
/-- the row of a grit before any is brought in -/
def zG0 (q u : Nat) : Nat → Nat := fun x => if x = 0 ∧ u = q ∧ ¬ q = 0 then 0 else 1000
/-- row u is as it should be -/
def zGr (pt : Nat → Int) (tk : Nat → Nat) (q : Nat) (R : Nat → Nat → Nat) (u : Nat) : Prop := zGi pt tk R u (zG0 q u) (R u) q
/-- the grits of the class -/
def zGc (pt : Nat → Int) (tk : Nat → Nat) (q : Nat) (mm : zM) : Prop := q ≤ 6 ∧ mm 117 3 = nI q ∧ ∀ k, k < q → (mm 119 k = zi (pt k) ∧ 0 ≤ pt k ∧ pt k ≤ 200) ∧ (mm 118 k = nI (tk k) ∧ 1 ≤ tk k ∧ tk k ≤ 100)
theorem zGc_of {pt : Nat → Int} {tk : Nat → Nat} {q : Nat} {mm m1 : zM} (h : zGc pt tk q mm) (h1 : m1 117 3 = mm 117 3) (h2 : m1 118 = mm 118) (h3 : m1 119 = mm 119) : zGc pt tk q m1 := ⟨h.1, h1.trans h.2.1, fun k hk => ⟨⟨by rw [h3]; exact (h.2.2 k hk).1.1, (h.2.2 k hk).1.2⟩, ⟨by rw [h2]; exact (h.2.2 k hk).2.1, (h.2.2 k hk).2.2⟩⟩⟩
theorem zG0_le (q u x : Nat) : zG0 q u x ≤ 1000 := by
  unfold zG0
  by_cases h : x = 0 ∧ u = q ∧ ¬ q = 0
  · rw [if_pos h]; omega
  · rw [if_neg h]; omega
theorem lp_gi {d : Nat} {K : List Value → zS → Prop} {m0 : zM} {pt : Nat → Int} {tk : Nat → Nat} {q u : Nat} {R : Nat → Nat → Nat} (hu : u ≤ q) (hC : zGc pt tk q m0) (hR : ∀ v, u < v → v ≤ q → ∀ x, x < 2101 → m0 (120 + 1 + v) x = nI (R v x)) (hR0 : ∀ v x, u < v → v ≤ q → R v x ≤ 1000) (hK : ∀ (m2 : zM) (r : Nat → Nat) (y : Option Value), (∀ c, c ≠ 120 + 1 + u → m2 c = m0 c) → (∀ x, x < 2101 → m2 (120 + 1 + u) x = nI (r x)) → zGi pt tk R u (zG0 q u) r q → wx (d + 3) mX2_settle 83 [some (.ref 117), some (.int (zi ((u : Int) - 1))), y] [] (zG m2) K) : ∀ (c i : Nat) (m1 : zM) (r : Nat → Nat), i + c = (q - u) → (∀ c, c ≠ 120 + 1 + u → m1 c = m0 c) → (∀ x, x < 2101 → m1 (120 + 1 + u) x = nI (r x)) → (zGi pt tk R u (zG0 q u) r (u + i)) → wx (d + 3) mX2_settle 63 [some (.ref 117), some (.int (zi ((u : Int) - 1))), some (.int (nI (u + i)))] [] (zG m1) K := by
  intro c
  induction c with
  | zero =>
    intro i m1 r hi hf hx hg
    obtain rfl : i = (q - u) := by omega
    refine wx_iload_n (i := 2) dX2_settle_63 rfl rfl ?_
    refine wx_aload_n (i := 0) dX2_settle_64 rfl rfl ?_
    refine wx_getIG (k := 117) dX2_settle_65 zF_X2_23 zKo_117 rfl (Nat.le_of_ble_eq_true rfl) ?_
    refine wx_icmp_ge (tgt := 83) dX2_settle_68 (by decide) (fun h68 => ?_) (fun h68 => ?_)
    · skip
      rw [show u + (q - u) = q by omega] at hg
      exact hK m1 r _ hf hx hg
    · exact absurd (show m1 117 3 ≤ nI (u + (q - u)) by rw [hf 117 (by omega), hC.2.1]; exact nI_le (by omega) (by have := hC.1; omega)) h68 --end
  | succ c ih =>
    intro i m1 r hi hf hx hg
    refine wx_iload_n (i := 2) dX2_settle_63 rfl rfl ?_
    refine wx_aload_n (i := 0) dX2_settle_64 rfl rfl ?_
    refine wx_getIG (k := 117) dX2_settle_65 zF_X2_23 zKo_117 rfl (Nat.le_of_ble_eq_true rfl) ?_
    refine wx_icmp_ge (tgt := 83) dX2_settle_68 (by decide) (fun h68 => ?_) (fun h68 => ?_)
    · exact absurd (show m1 117 3 ≤ nI (u + i) from h68) (by rw [hf 117 (by omega), hC.2.1]; exact nI_ge (by omega) (by have := hC.1; omega)) --end
    · skip
      refine wx_aload_n (i := 0) dX2_settle_71 rfl rfl ?_
      refine wx_iload_n (i := 1) dX2_settle_72 rfl rfl ?_
      refine wx_iload_n (i := 2) dX2_settle_73 rfl rfl ?_
      refine wx_V2 dX2_settle_74 zPV_X2_bring zLk_X2_68 rfl (Nat.le_of_ble_eq_true rfl) (Nat.le_of_ble_eq_true rfl) (Or.inr rfl) ?_
      refine s_X2_bring (pt := pt) (tk := tk) (R := R (u + i + 1)) ⟨by omega, by have := hC.1; omega⟩ (fun k hk => by rw [hf 119 (by omega)]; exact (hC.2.2 k (by omega)).1) (by rw [hf 118 (by omega)]; exact (hC.2.2 (u + i) (by omega)).2) hx (fun x => Nat.le_trans (hg.1 x) (zG0_le q u x)) (fun x hx2 => by rw [hf _ (by omega)]; exact hR (u + i + 1) (by omega) (by omega) x hx2) (fun x => hR0 (u + i + 1) x (by omega) (by omega)) (fun m2 r2 hf2 hx2 hb2 => ?_)
      refine wx_r0 ?_
      refine wx_inc (c := 1) dX2_settle_77 rfl (by decide) (Nat.le_of_ble_eq_true rfl) rfl ?_
      refine wx_goto (tgt := 63) dX2_settle_80 (by decide) ?_
      rw [nI_1]
      exact ih (i + 1) m2 r2 (by omega) (fun c w => (hf2 c w).trans (hf c w)) hx2 (zGi_s (b := u + i) hg (by omega) hb2)
theorem zGi_R {pt : Nat → Int} {tk : Nat → Nat} {R R2 : Nat → Nat → Nat} {u b : Nat} {r0 r : Nat → Nat} (h : zGi pt tk R u r0 r b) (e : ∀ v, u < v → v ≤ b → R2 v = R v) : zGi pt tk R2 u r0 r b := by
  refine ⟨h.1, fun nx t w h1 h2 h3 h4 => ?_, fun x => ?_⟩
  · have q := e (nx + 1) (by omega) (by omega)
    rw [q]
    exact h.2.1 nx t w h1 h2 ⟨h3.1, by rw [← q]; exact h3.2.1, h3.2.2⟩ h4
  · rcases h.2.2 x with a | ⟨nx, t, w, h1, h2, h3, h4, h5⟩
    · exact Or.inl a
    · have q := e (nx + 1) (by omega) (by omega)
      exact Or.inr ⟨nx, t, w, h1, h2, ⟨h3.1, by rw [q]; exact h3.2.1, h3.2.2⟩, h4, by rw [q]; exact h5⟩
/-- rows from b on are as they should be -/
def zGo (pt : Nat → Int) (tk : Nat → Nat) (q : Nat) (R : Nat → Nat → Nat) (mm : zM) (b : Nat) : Prop := ∀ u, b ≤ u → u ≤ q → zGr pt tk q R u ∧ ∀ x, x < 2101 → mm (120 + 1 + u) x = nI (R u x)
theorem zGo_s {pt : Nat → Int} {tk : Nat → Nat} {q : Nat} {R : Nat → Nat → Nat} {m1 m2 : zM} {u : Nat} {r : Nat → Nat} (h : zGo pt tk q R m1 (u + 1)) (hf : ∀ c, 120 + 1 + u < c → m2 c = m1 c) (hx : ∀ x, x < 2101 → m2 (120 + 1 + u) x = nI (r x)) (hr : zGi pt tk R u (zG0 q u) r q) : zGo pt tk q (fun v => if v = u then r else R v) m2 u := by
  intro v h1 h2
  by_cases e : v = u
  · subst e
    refine ⟨?_, fun x hx2 => ?_⟩
    · show zGi pt tk _ v (zG0 q v) (if v = v then r else R v) q
      rw [if_pos rfl]
      exact zGi_R hr (fun w w1 _ => if_neg (by omega))
    · show _ = nI ((if v = v then r else R v) x)
      rw [if_pos rfl]
      exact hx x hx2
  · have g := h v (by omega) h2
    refine ⟨?_, fun x hx2 => ?_⟩
    · show zGi pt tk _ v (zG0 q v) (if v = u then r else R v) q
      rw [if_neg e]
      exact zGi_R g.1 (fun w w1 _ => if_neg (by omega))
    · show _ = nI ((if v = u then r else R v) x)
      rw [if_neg e, hf _ (by omega)]
      exact g.2 x hx2
