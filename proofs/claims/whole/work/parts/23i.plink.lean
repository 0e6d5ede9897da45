/-! plans: the class against the reference -/
theorem zLink_c {n : Nat} {h p : Nat → Int32} {r : Int32} (hn : n ≤ 16) : ∀ (c : Nat), c ≤ n + 2 → ∀ s, (zMko n h p r c s < 1000000 → zCo n h p r c s = zMko n h p r c s ∧ zMko n h p r c s ≤ 5 * c) ∧ (zCo n h p r c s < 1000 → zMko n h p r c s = zCo n h p r c s) := by
  intro c
  induction c with
  | zero => exact fun _ s => ⟨fun _ => ⟨rfl, Nat.zero_le _⟩, fun _ => rfl⟩
  | succ c ih =>
    intro hc s
    have hz : (n + 1 - c) + c = n + 1 := by omega
    have e1 := zCo_s (h := h) (p := p) (r := r) hz s
    have e2 := zMko_s (h := h) (p := p) (r := r) hz s
    have hmo := zMo_le n (n + 1 - c)
    -- the reference's way is one of the class's
    have ha : zCo n h p r (c + 1) s < 1000 → zMko n h p r (c + 1) s ≤ zCo n h p r (c + 1) s := fun w => by
      rcases zLm_at 17000 (zCw n h p r (n + 1 - c) (zCo n h p r c) s) (zMo n (n + 1 - c) + 1) with q | ⟨j, j1, j2⟩
      · rw [← e1] at q; omega
      · rw [← e1] at j2
        have hr : zRt h p r (n + 1 - c) s j := Classical.byContradiction fun q => by
          rw [zCw_n q] at j2; omega
        rw [zCw_y hr] at j2
        have h1 := (ih (by omega) (zNx s j)).2 (by omega)
        have h2 := zLm_lb (B := 1000000) (f := zMvl h p r (n + 1 - c) (zMko n h p r c) s) j1
        rw [← e2, zMvl_y hr] at h2
        omega
    have hb : zMko n h p r (c + 1) s < 1000000 → zCo n h p r (c + 1) s ≤ zMko n h p r (c + 1) s ∧ zMko n h p r (c + 1) s ≤ 5 * (c + 1) := fun w => by
      rcases zLm_at 1000000 (zMvl h p r (n + 1 - c) (zMko n h p r c) s) (zMo n (n + 1 - c) + 1) with q | ⟨j, j1, j2⟩
      · rw [← e2] at q; omega
      · rw [← e2] at j2
        have hr : zRt h p r (n + 1 - c) s j := Classical.byContradiction fun q => by
          rw [zMvl_n q] at j2; omega
        rw [zMvl_y hr] at j2
        have h1 := (ih (by omega) (zNx s j)).1 (by omega)
        have h2 := zLm_lb (B := 17000) (f := zCw n h p r (n + 1 - c) (zCo n h p r c) s) j1
        rw [← e1, zCw_y hr] at h2
        omega
    refine ⟨fun w => ?_, fun w => ?_⟩
    · have h1 := hb w
      have h2 := ha (by omega)
      exact ⟨by omega, h1.2⟩
    · have h1 := ha w
      have h2 := hb (by omega)
      omega
theorem zLink_m {n : Nat} {h p : Nat → Int32} {r : Int32} {z s m : Nat} (hn : n ≤ 16) (hz : z < n) (hc : zCo n h p r (n + 2 - z) s < 1000) : (zRt h p r z s m ∧ zMko n h p r (n + 1 - z) (zNx s m) + m = zCo n h p r (n + 2 - z) s) ↔ zCw n h p r z (zCo n h p r (n + 1 - z)) s m = zCo n h p r (n + 2 - z) s := by
  have hl := zLink_c (h := h) (p := p) (r := r) hn (n + 1 - z) (by omega) (zNx s m)
  constructor
  · rintro ⟨h1, h2⟩
    rw [zCw_y h1]
    have := (hl.1 (by omega)).1
    omega
  · intro h1
    have hr : zRt h p r z s m := Classical.byContradiction fun q => by
      rw [zCw_n q] at h1; omega
    rw [zCw_y hr] at h1
    have := hl.2 (by omega)
    exact ⟨hr, by omega⟩
-- the numbers hang on the heights of the zones and five pulls alone
theorem zLl_cg {a b : Int32} {p q : Nat → Int32} {s : Nat} (ha : a = b) (hp : ∀ k, k < 5 → p k = q k) : ∀ k, k ≤ 4 → zLl a p s k = zLl b q s k
  | 0, _ => ha
  | k + 1, hk => by
    show zLl a p s k - _ * p (k + 1) = zLl b q s k - _ * q (k + 1)
    rw [zLl_cg ha hp k (by omega), hp (k + 1) (by omega)]
theorem zRt_cg {n : Nat} {h g p q : Nat → Int32} {r : Int32} {z s m : Nat} (hh : ∀ i, i < n → h i = g i) (hp : ∀ k, k < 5 → p k = q k) (hz : z < n + 2) : zRt h p r z s m ↔ zRt g q r z s m := by
  unfold zRt
  by_cases e : z < 2
  · exact ⟨fun _ => Or.inl e, fun _ => Or.inl e⟩
  · have : zHh h p z s m = zHh g q z s m := by
      unfold zHh zLf
      rw [zLl_cg (hh (z - 2) (by omega)) hp 4 (by omega), hp 0 (by omega)]
    rw [this]
theorem zCw_cg {n : Nat} {h g p q : Nat → Int32} {r : Int32} {z : Nat} {F : Nat → Nat} (hh : ∀ i, i < n → h i = g i) (hp : ∀ k, k < 5 → p k = q k) (hz : z < n + 2) (s : Nat) : zCw n h p r z F s = zCw n g q r z F s := by
  funext m
  have e := zRt_cg (r := r) (s := s) (m := m) hh hp hz
  by_cases w : zRt h p r z s m
  · rw [zCw_y w, zCw_y (e.mp w)]
  · rw [zCw_n w, zCw_n (fun v => w (e.mpr v))]
theorem zCo_cg {n : Nat} {h g p q : Nat → Int32} {r : Int32} (hh : ∀ i, i < n → h i = g i) (hp : ∀ k, k < 5 → p k = q k) : ∀ c, c ≤ n + 2 → zCo n h p r c = zCo n g q r c
  | 0, _ => rfl
  | c + 1, hc => by
    funext s
    rw [zCo_s (z := n + 1 - c) (by omega), zCo_s (z := n + 1 - c) (by omega), zCo_cg hh hp c (by omega), zCw_cg hh hp (by omega)]
theorem zSel_cg {n : Nat} {h g p q : Nat → Int32} {r : Int32} (hh : ∀ i, i < n → h i = g i) (hp : ∀ k, k < 5 → p k = q k) {z : Nat} (hz : z < n) (s : Nat) : zSel n h p r z s = zSel n g q r z s := by
  unfold zSel
  rw [zCo_cg hh hp _ (by omega), zCo_cg hh hp _ (by omega), zCw_cg hh hp (by omega)]
theorem zPst_cg {n : Nat} {h g p q : Nat → Int32} {r : Int32} (hh : ∀ i, i < n → h i = g i) (hp : ∀ k, k < 5 → p k = q k) : ∀ z, z ≤ n → zPst n h p r z = zPst n g q r z
  | 0, _ => rfl
  | z + 1, hz => by
    show zNx (zPst n h p r z) (zSel n h p r z (zPst n h p r z)) = zNx (zPst n g q r z) (zSel n g q r z (zPst n g q r z))
    rw [zPst_cg hh hp z (by omega), zSel_cg hh hp (by omega)]
theorem zPmi_cg {n : Nat} {h g p q : Nat → Int32} {r : Int32} (hh : ∀ i, i < n → h i = g i) (hp : ∀ k, k < 5 → p k = q k) {z : Nat} (hz : z < n) : zPmi n h p r z = zPmi n g q r z := by
  unfold zPmi
  rw [zPst_cg hh hp z (by omega), zSel_cg hh hp hz]
