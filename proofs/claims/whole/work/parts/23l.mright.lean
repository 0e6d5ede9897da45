/-! how many zones come right: the reference -/
noncomputable def zNop (h p : Nat → Int32) (r : Int32) (z c : Nat) (F : Nat → Nat) (s m : Nat) : Nat := @ite _ (zRt h p r z s m) (Classical.propDecidable _) (F (zNx s m)) (c + 1)
theorem zNop_y {h p : Nat → Int32} {r : Int32} {z c : Nat} {F : Nat → Nat} {s m : Nat} (q : zRt h p r z s m) : zNop h p r z c F s m = F (zNx s m) := @if_pos _ (Classical.propDecidable _) q _ _ _
theorem zNop_n {h p : Nat → Int32} {r : Int32} {z c : Nat} {F : Nat → Nat} {s m : Nat} (q : ¬ zRt h p r z s m) : zNop h p r z c F s m = c + 1 := @if_neg _ (Classical.propDecidable _) q _ _ _
/-- how many places are missed at least, of the last c -/
noncomputable def zNm (n : Nat) (h p : Nat → Int32) (r : Int32) : Nat → Nat → Nat
  | 0, _ => 0
  | c + 1, s => zLm (c + 1) (zNop h p r (n + 1 - c) c (zNm n h p r c) s) (zMo n (n + 1 - c) + 1)
theorem zNm_s {n : Nat} {h p : Nat → Int32} {r : Int32} {z c : Nat} (hz : z + c = n + 1) (s : Nat) : zNm n h p r (c + 1) s = zLm (c + 1) (zNop h p r z c (zNm n h p r c) s) (zMo n z + 1) := by
  show zLm (c + 1) (zNop h p r (n + 1 - c) c (zNm n h p r c) s) (zMo n (n + 1 - c) + 1) = _
  rw [show n + 1 - c = z by omega]
theorem zNm_le {n : Nat} {h p : Nat → Int32} {r : Int32} : ∀ c s, zNm n h p r c s ≤ c
  | 0, _ => Nat.le_refl _
  | c + 1, s => zLm_le _ _ _
theorem zNm_co {n : Nat} {h p : Nat → Int32} {r : Int32} (hn : n ≤ 16) : ∀ c, c ≤ n + 2 → ∀ s, 1000 * zNm n h p r c s ≤ zCo n h p r c s ∧ zCo n h p r c s ≤ 1000 * zNm n h p r c s + 5 * c := by
  intro c
  induction c with
  | zero => exact fun _ s => ⟨Nat.le_refl _, Nat.le_refl _⟩
  | succ c ih =>
    intro hc s
    have hz : (n + 1 - c) + c = n + 1 := by omega
    have e1 := zCo_s (h := h) (p := p) (r := r) hz s
    have e2 := zNm_s (h := h) (p := p) (r := r) hz s
    have hmo := zMo_le n (n + 1 - c)
    refine ⟨?_, ?_⟩
    · rcases zLm_at 17000 (zCw n h p r (n + 1 - c) (zCo n h p r c) s) (zMo n (n + 1 - c) + 1) with q | ⟨j, j1, j2⟩
      · rw [← e1] at q
        have h17 : zNm n h p r (c + 1) s ≤ 17 := by
          by_cases w : n + 1 - c < 2
          · have h2 := zLm_lb (B := c + 1) (f := zNop h p r (n + 1 - c) c (zNm n h p r c) s) (show 0 < zMo n (n + 1 - c) + 1 by omega)
            rw [← e2, zNop_y (Or.inl w)] at h2
            have := zNm_le (n := n) (h := h) (p := p) (r := r) c (zNx s 0)
            omega
          · have := zNm_le (n := n) (h := h) (p := p) (r := r) (c + 1) s
            omega
        omega
      · rw [← e1] at j2
        have h2 := zLm_lb (B := c + 1) (f := zNop h p r (n + 1 - c) c (zNm n h p r c) s) j1
        rw [← e2] at h2
        by_cases w : zRt h p r (n + 1 - c) s j
        · rw [zCw_y w] at j2
          rw [zNop_y w] at h2
          have := (ih (by omega) (zNx s j)).1
          omega
        · rw [zCw_n w] at j2
          rw [zNop_n w] at h2
          omega
    · rcases zLm_at (c + 1) (zNop h p r (n + 1 - c) c (zNm n h p r c) s) (zMo n (n + 1 - c) + 1) with q | ⟨j, j1, j2⟩
      · rw [← e2] at q
        have h1 := zLm_lb (B := 17000) (f := zCw n h p r (n + 1 - c) (zCo n h p r c) s) (show 0 < zMo n (n + 1 - c) + 1 by omega)
        have h2 := zLm_lb (B := c + 1) (f := zNop h p r (n + 1 - c) c (zNm n h p r c) s) (show 0 < zMo n (n + 1 - c) + 1 by omega)
        rw [← e1] at h1
        rw [← e2] at h2
        by_cases w : zRt h p r (n + 1 - c) s 0
        · rw [zNop_y w] at h2
          have := zNm_le (n := n) (h := h) (p := p) (r := r) c (zNx s 0)
          omega
        · rw [zCw_n w] at h1
          omega
      · rw [← e2] at j2
        have h1 := zLm_lb (B := 17000) (f := zCw n h p r (n + 1 - c) (zCo n h p r c) s) j1
        rw [← e1] at h1
        by_cases w : zRt h p r (n + 1 - c) s j
        · rw [zNop_y w] at j2
          rw [zCw_y w] at h1
          have := (ih (by omega) (zNx s j)).2
          omega
        · rw [zNop_n w] at j2
          rw [zCw_n w] at h1
          omega
theorem zNm_eq {n : Nat} {h p : Nat → Int32} {r : Int32} (hn : n ≤ 16) : zCo n h p r (n + 2) 0 / 1000 = zNm n h p r (n + 2) 0 := by
  have := zNm_co (h := h) (p := p) (r := r) hn (n + 2) (Nat.le_refl _) 0
  omega
/-- what is reached from A, of the states up to i and of i's minutes up to j -/
def zRch (n : Nat) (h p : Nat → Int32) (r : Int32) (z : Nat) (A : Nat → Prop) (i j s2 : Nat) : Prop := ∃ s m, (s < i ∨ (s = i ∧ m < j)) ∧ A s ∧ m ≤ zMo n z ∧ zRt h p r z s m ∧ s2 = zNx s m
theorem zRch_0 {n : Nat} {h p : Nat → Int32} {r : Int32} {z : Nat} {A : Nat → Prop} (s2 : Nat) : ¬ zRch n h p r z A 0 0 s2 := fun ⟨s, m, a, _⟩ => by omega
theorem zRch_y {n : Nat} {h p : Nat → Int32} {r : Int32} {z : Nat} {A : Nat → Prop} {s j s2 : Nat} (hA : A s) (hj : j ≤ zMo n z) (hr : zRt h p r z s j) : zRch n h p r z A s (j + 1) s2 ↔ zRch n h p r z A s j s2 ∨ s2 = zNx s j := by
  constructor
  · rintro ⟨a, m, h1, h2, h3, h4, h5⟩
    by_cases e : a = s ∧ m = j
    · rw [e.1, e.2] at h5; exact Or.inr h5
    · exact Or.inl ⟨a, m, by omega, h2, h3, h4, h5⟩
  · rintro (⟨a, m, h1, h2, h3, h4, h5⟩ | h1)
    · exact ⟨a, m, by omega, h2, h3, h4, h5⟩
    · exact ⟨s, j, by omega, hA, hj, hr, h1⟩
theorem zRch_n {n : Nat} {h p : Nat → Int32} {r : Int32} {z : Nat} {A : Nat → Prop} {s j s2 : Nat} (hr : ¬ zRt h p r z s j) : zRch n h p r z A s (j + 1) s2 ↔ zRch n h p r z A s j s2 := by
  constructor
  · rintro ⟨a, m, h1, h2, h3, h4, h5⟩
    by_cases e : a = s ∧ m = j
    · rw [e.1, e.2] at h4; exact absurd h4 hr
    · exact ⟨a, m, by omega, h2, h3, h4, h5⟩
  · rintro ⟨a, m, h1, h2, h3, h4, h5⟩
    exact ⟨a, m, by omega, h2, h3, h4, h5⟩
theorem zRch_e {n : Nat} {h p : Nat → Int32} {r : Int32} {z : Nat} {A : Nat → Prop} {s s2 : Nat} : zRch n h p r z A s (zMo n z + 1) s2 ↔ zRch n h p r z A (s + 1) 0 s2 := by
  constructor
  · rintro ⟨a, m, h1, h2, h3, h4, h5⟩
    exact ⟨a, m, by omega, h2, h3, h4, h5⟩
  · rintro ⟨a, m, h1, h2, h3, h4, h5⟩
    exact ⟨a, m, by omega, h2, h3, h4, h5⟩
theorem zRch_o {n : Nat} {h p : Nat → Int32} {r : Int32} {z : Nat} {A : Nat → Prop} {s j s2 : Nat} (hA : ¬ A s) : zRch n h p r z A s j s2 ↔ zRch n h p r z A (s + 1) 0 s2 := by
  constructor
  · rintro ⟨a, m, h1, h2, h3, h4, h5⟩
    exact ⟨a, m, by omega, h2, h3, h4, h5⟩
  · rintro ⟨a, m, h1, h2, h3, h4, h5⟩
    by_cases e : a = s
    · rw [e] at h2; exact absurd h2 hA
    · exact ⟨a, m, by omega, h2, h3, h4, h5⟩
/-- A holds a state that misses no more than can be, and none that misses fewer -/
def zRiv (n : Nat) (h p : Nat → Int32) (r : Int32) (z : Nat) (A : Nat → Prop) : Prop := (∃ s, s < 1296 ∧ A s ∧ zNm n h p r (n + 2 - z) s = zNm n h p r (n + 2) 0) ∧ ∀ s, s < 1296 → A s → zNm n h p r (n + 2) 0 ≤ zNm n h p r (n + 2 - z) s
theorem zRiv_no {n : Nat} {h p : Nat → Int32} {r : Int32} {z : Nat} {A : Nat → Prop} (hz : z < n + 2) (hv : zRiv n h p r z A) (hno : ∀ s2, ¬ zRch n h p r z A 1296 0 s2) : zNm n h p r (n + 2) 0 = n + 2 - z := by
  obtain ⟨s, s1, s2, s3⟩ := hv.1
  rw [← s3]
  have e := zNm_s (n := n) (h := h) (p := p) (r := r) (z := z) (c := n + 1 - z) (by omega) s
  rw [show n + 2 - z = (n + 1 - z) + 1 by omega]
  rcases zLm_at ((n + 1 - z) + 1) (zNop h p r z (n + 1 - z) (zNm n h p r (n + 1 - z)) s) (zMo n z + 1) with q | ⟨j, j1, j2⟩
  · rw [e]; exact q
  · rw [e, j2]
    exact zNop_n (fun w => hno (zNx s j) ⟨s, j, by omega, s2, by omega, w, rfl⟩)
theorem zRiv_s {n : Nat} {h p : Nat → Int32} {r : Int32} {z : Nat} {A B : Nat → Prop} (hz : z < n + 2) (hv : zRiv n h p r z A) (hB : ∀ s2, s2 < 1296 → (B s2 ↔ zRch n h p r z A 1296 0 s2)) (hex : ∃ s2, zRch n h p r z A 1296 0 s2) (hA : ∀ s, A s → s < 1296) : zRiv n h p r (z + 1) B := by
  have key : ∀ s m, A s → m ≤ zMo n z → zRt h p r z s m → zNm n h p r (n + 2) 0 ≤ zNm n h p r (n + 1 - z) (zNx s m) := fun s m a1 a2 a3 => by
    have e := zNm_s (n := n) (h := h) (p := p) (r := r) (z := z) (c := n + 1 - z) (by omega) s
    have h2 := zLm_lb (B := (n + 1 - z) + 1) (f := zNop h p r z (n + 1 - z) (zNm n h p r (n + 1 - z)) s) (show m < zMo n z + 1 by omega)
    rw [← e, zNop_y a3] at h2
    have := hv.2 s (hA s a1) a1
    rw [show n + 2 - z = (n + 1 - z) + 1 by omega] at this
    omega
  refine ⟨?_, fun s s1 s2 => ?_⟩
  · obtain ⟨s, s1, s2, s3⟩ := hv.1
    have e := zNm_s (n := n) (h := h) (p := p) (r := r) (z := z) (c := n + 1 - z) (by omega) s
    rw [show n + 2 - z = (n + 1 - z) + 1 by omega, e] at s3
    obtain ⟨x, a, m, b1, b2, b3, b4, b5⟩ := hex
    have hk := key a m b2 b3 b4
    have hle := zNm_le (n := n) (h := h) (p := p) (r := r) (n + 1 - z) (zNx a m)
    rcases zLm_at ((n + 1 - z) + 1) (zNop h p r z (n + 1 - z) (zNm n h p r (n + 1 - z)) s) (zMo n z + 1) with q | ⟨j, j1, j2⟩
    · omega
    · by_cases w : zRt h p r z s j
      · rw [zNop_y w] at j2
        refine ⟨zNx s j, zNx_lt s j, (hB _ (zNx_lt s j)).mpr ⟨s, j, by omega, s2, by omega, w, rfl⟩, ?_⟩
        rw [show n + 2 - (z + 1) = n + 1 - z by omega]
        omega
      · rw [zNop_n w] at j2
        omega
  · obtain ⟨a, m, b1, b2, b3, b4, b5⟩ := (hB s s1).mp s2
    rw [show n + 2 - (z + 1) = n + 1 - z by omega, b5]
    exact key a m b2 b3 b4
