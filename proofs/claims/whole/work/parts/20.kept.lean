/-! what is dropped, counted in two ways -/
/-- whether a number serves a reading, as a number -/
def zCi (g : Nat → Nat → Int) (s : Nat → Int) (L : Int) (i u : Nat) (x : Int) : Int := if g u i ≠ 5000 ∧ ((g u i - s u - x).natAbs : Int) ≤ L then 1 else 0
theorem zHo3 (g : Nat → Nat → Int) (s : Nat → Int) (L : Int) (i : Nat) (x : Int) : zHo g s L i x 3 = zCi g s L i 0 x + zCi g s L i 1 x + zCi g s L i 2 x := by
  show 0 + zCi g s L i 0 x + zCi g s L i 1 x + zCi g s L i 2 x = _
  omega
theorem zCi_n {g : Nat → Nat → Int} {s : Nat → Int} {L : Int} {i u : Nat} {x : Int} (h : g u i = 5000) : zCi g s L i u x = 0 := if_neg (fun w => w.1 h)
theorem zCi_o {g : Nat → Nat → Int} {s : Nat → Int} {L : Int} {i u : Nat} (hL : 0 ≤ L) (h : ¬ g u i = 5000) : zCi g s L i u (g u i - s u - L) = 1 := if_pos ⟨h, by omega⟩
/-- two readings: which numbers serve both -/
theorem zPr {g : Nat → Nat → Int} {s : Nat → Int} {L : Int} {i t u : Nat} {e : Int} (hL : 0 ≤ L) (ht : ¬ g t i = 5000) (hu : ¬ g u i = 5000) (he : e = s u - s t) :
    (zCi g s L i u (g t i - s t - L) = 1 ∧ zCi g s L i t (g u i - s u - L) = 1 ∧ (zAg g L t u e i).toNat = 1 ∧ g u i - s u = g t i - s t) ∨
    (zCi g s L i u (g t i - s t - L) = 1 ∧ zCi g s L i t (g u i - s u - L) = 0 ∧ (zAg g L t u e i).toNat = 1 ∧ g t i - s t - 2 * L ≤ g u i - s u ∧ g u i - s u < g t i - s t) ∨
    (zCi g s L i u (g t i - s t - L) = 0 ∧ zCi g s L i t (g u i - s u - L) = 1 ∧ (zAg g L t u e i).toNat = 1 ∧ g u i - s u - 2 * L ≤ g t i - s t ∧ g t i - s t < g u i - s u) ∨
    (zCi g s L i u (g t i - s t - L) = 0 ∧ zCi g s L i t (g u i - s u - L) = 0 ∧ (zAg g L t u e i).toNat = 0 ∧ (g u i - s u < g t i - s t - 2 * L ∨ g t i - s t + 2 * L < g u i - s u)) := by
  have A1 : ((g u i - e - g t i).natAbs : Int) ≤ 2 * L → (zAg g L t u e i).toNat = 1 := fun w => by
    rw [show zAg g L t u e i = true from decide_eq_true ⟨ht, hu, w⟩]; rfl
  have A0 : ¬ ((g u i - e - g t i).natAbs : Int) ≤ 2 * L → (zAg g L t u e i).toNat = 0 := fun w => by
    rw [show zAg g L t u e i = false from decide_eq_false (fun v => w v.2.2)]; rfl
  have U1 : ((g u i - s u - (g t i - s t - L)).natAbs : Int) ≤ L → zCi g s L i u (g t i - s t - L) = 1 := fun w => if_pos ⟨hu, w⟩
  have U0 : ¬ ((g u i - s u - (g t i - s t - L)).natAbs : Int) ≤ L → zCi g s L i u (g t i - s t - L) = 0 := fun w => if_neg (fun v => w v.2)
  have T1 : ((g t i - s t - (g u i - s u - L)).natAbs : Int) ≤ L → zCi g s L i t (g u i - s u - L) = 1 := fun w => if_pos ⟨ht, w⟩
  have T0 : ¬ ((g t i - s t - (g u i - s u - L)).natAbs : Int) ≤ L → zCi g s L i t (g u i - s u - L) = 0 := fun w => if_neg (fun v => w v.2)
  rcases (by omega : g u i - s u = g t i - s t ∨ (g t i - s t - 2 * L ≤ g u i - s u ∧ g u i - s u < g t i - s t) ∨ (g u i - s u - 2 * L ≤ g t i - s t ∧ g t i - s t < g u i - s u) ∨ (g u i - s u < g t i - s t - 2 * L ∨ g t i - s t + 2 * L < g u i - s u)) with q | q | q | q
  · exact Or.inl ⟨U1 (by omega), T1 (by omega), A1 (by omega), q⟩
  · exact Or.inr (Or.inl ⟨U1 (by omega), T0 (by omega), A1 (by omega), q⟩)
  · exact Or.inr (Or.inr (Or.inl ⟨U0 (by omega), T1 (by omega), A1 (by omega), q⟩))
  · exact Or.inr (Or.inr (Or.inr ⟨U0 (by omega), T0 (by omega), A0 (by omega), q⟩))
theorem zAg_n {g : Nat → Nat → Int} {L : Int} {t u i : Nat} {e : Int} (h : g t i = 5000 ∨ g u i = 5000) : (zAg g L t u e i).toNat = 0 := by
  rw [show zAg g L t u e i = false from decide_eq_false (fun v => h.elim v.1 v.2.1)]
  rfl
theorem zor3 (x y z : Bool) : (((x || y) || z).toNat = 0 ∧ x.toNat + y.toNat + z.toNat = 0) ∨ (((x || y) || z).toNat = 1 ∧ 1 ≤ x.toNat + y.toNat + z.toNat) := by
  cases x <;> cases y <;> cases z <;> decide
theorem zand3 (x y z : Bool) : (((x && y) && z).toNat = 0 ∧ x.toNat + y.toNat + z.toNat ≤ 2) ∨ (((x && y) && z).toNat = 1 ∧ x.toNat + y.toNat + z.toNat = 3) := by
  cases x <;> cases y <;> cases z <;> decide
/-- the most that a number serves -/
theorem zDs_mx (g : Nat → Nat → Int) (s : Nat → Int) (L : Int) (i : Nat) : ∀ k : Nat, (∀ t, t < k → ¬ g t i = 5000 → zHo g s L i (g t i - s t - L) 3 ≤ (zDs g s L i k).2.1) ∧ (((zDs g s L i k).2.1 = 0 ∧ ∀ t, t < k → g t i = 5000) ∨ ∃ t, t < k ∧ ¬ g t i = 5000 ∧ (zDs g s L i k).2.1 = zHo g s L i (g t i - s t - L) 3)
  | 0 => ⟨fun t ht => absurd ht (Nat.not_lt_zero t), Or.inl ⟨rfl, fun t ht => absurd ht (Nat.not_lt_zero t)⟩⟩
  | k + 1 => by
    obtain ⟨h1, h2⟩ := zDs_mx g s L i k
    by_cases q : g k i = 5000
    · rw [zDs_g q]
      refine ⟨fun t ht hg => ?_, ?_⟩
      · by_cases e : t = k
        · subst e; exact absurd q hg
        · exact h1 t (by omega) hg
      · rcases h2 with ⟨a, b⟩ | ⟨t, a, b, c⟩
        · exact Or.inl ⟨a, fun t ht => by
            by_cases e : t = k
            · subst e; exact q
            · exact b t (by omega)⟩
        · exact Or.inr ⟨t, by omega, b, c⟩
    · have hz := (zHo_bd g s L i (g k i - s k - L) 3).1
      by_cases r : (zDs g s L i k).2.1 < zHo g s L i (g k i - s k - L) 3 ∨ (zHo g s L i (g k i - s k - L) 3 = (zDs g s L i k).2.1 ∧ g k i - s k - L < (zDs g s L i k).2.2)
      · rw [zDs_y q r]
        refine ⟨fun t ht hg => ?_, Or.inr ⟨k, by omega, q, rfl⟩⟩
        show _ ≤ zHo g s L i (g k i - s k - L) 3
        by_cases e : t = k
        · subst e; exact Int.le_refl _
        · have := h1 t (by omega) hg
          omega
      · rw [zDs_n q r]
        have hle : zHo g s L i (g k i - s k - L) 3 ≤ (zDs g s L i k).2.1 := Int.not_lt.mp (fun w => r (Or.inl w))
        refine ⟨fun t ht hg => ?_, ?_⟩
        · show _ ≤ (zDs g s L i k).2.1
          by_cases e : t = k
          · subst e; exact hle
          · exact h1 t (by omega) hg
        · show ((zDs g s L i k).2.1 = 0 ∧ _) ∨ ∃ t, t < k + 1 ∧ _ ∧ (zDs g s L i k).2.1 = _
          rcases h2 with ⟨a, b⟩ | ⟨t, a, b, c⟩
          · exact Or.inr ⟨k, by omega, q, by omega⟩
          · exact Or.inr ⟨t, by omega, b, c⟩
set_option maxHeartbeats 4000000 in
theorem zDs_kept {g : Nat → Nat → Int} {s : Nat → Int} {L a b : Int} (hL : 0 ≤ L) (s0 : s 0 = 0) (s1 : s 1 = a) (s2 : s 2 = b) (i : Nat) : (zDs g s L i 3).2.1 = (if g 0 i = 5000 ∧ g 1 i = 5000 ∧ g 2 i = 5000 then 0 else 1) + (((zAny g L a b i).toNat + (zAll g L a b i).toNat : Nat) : Int) := by
  obtain ⟨h1, h2⟩ := zDs_mx g s L i 3
  generalize (zDs g s L i 3).2.1 = M at h1 h2 ⊢
  have ho := zor3 (zAg g L 0 1 a i) (zAg g L 0 2 b i) (zAg g L 1 2 (b - a) i)
  have ha := zand3 (zAg g L 0 1 a i) (zAg g L 0 2 b i) (zAg g L 1 2 (b - a) i)
  have p0 := h1 0 (by decide)
  have p1 := h1 1 (by decide)
  have p2 := h1 2 (by decide)
  rw [zHo3] at p0 p1 p2
  have h3 : (M = 0 ∧ g 0 i = 5000 ∧ g 1 i = 5000 ∧ g 2 i = 5000) ∨ (¬ g 0 i = 5000 ∧ M = zCi g s L i 0 (g 0 i - s 0 - L) + zCi g s L i 1 (g 0 i - s 0 - L) + zCi g s L i 2 (g 0 i - s 0 - L)) ∨ (¬ g 1 i = 5000 ∧ M = zCi g s L i 0 (g 1 i - s 1 - L) + zCi g s L i 1 (g 1 i - s 1 - L) + zCi g s L i 2 (g 1 i - s 1 - L)) ∨ (¬ g 2 i = 5000 ∧ M = zCi g s L i 0 (g 2 i - s 2 - L) + zCi g s L i 1 (g 2 i - s 2 - L) + zCi g s L i 2 (g 2 i - s 2 - L)) := by
    rcases h2 with ⟨u, v⟩ | ⟨t, u, v, w⟩
    · exact Or.inl ⟨u, v 0 (by decide), v 1 (by decide), v 2 (by decide)⟩
    · rw [zHo3] at w
      rcases (by omega : t = 0 ∨ t = 1 ∨ t = 2) with rfl | rfl | rfl
      · exact Or.inr (Or.inl ⟨v, w⟩)
      · exact Or.inr (Or.inr (Or.inl ⟨v, w⟩))
      · exact Or.inr (Or.inr (Or.inr ⟨v, w⟩))
  clear h1 h2
  unfold zAny zAll
  by_cases e0 : g 0 i = 5000 <;> by_cases e1 : g 1 i = 5000 <;> by_cases e2 : g 2 i = 5000
  · have n1 := zAg_n (g := g) (L := L) (t := 0) (u := 1) (e := a) (Or.inl e0)
    have n2 := zAg_n (g := g) (L := L) (t := 0) (u := 2) (e := b) (Or.inl e0)
    have n3 := zAg_n (g := g) (L := L) (t := 1) (u := 2) (e := b - a) (Or.inl e1)
    rw [if_pos ⟨e0, e1, e2⟩]
    rcases h3 with h3 | h3 | h3 | h3
    · omega
    · exact absurd e0 h3.1
    · exact absurd e1 h3.1
    · exact absurd e2 h3.1
  · have n1 := zAg_n (g := g) (L := L) (t := 0) (u := 1) (e := a) (Or.inl e0)
    have n2 := zAg_n (g := g) (L := L) (t := 0) (u := 2) (e := b) (Or.inl e0)
    have n3 := zAg_n (g := g) (L := L) (t := 1) (u := 2) (e := b - a) (Or.inl e1)
    rw [if_neg (fun w => e2 w.2.2)]
    rcases h3 with h3 | h3 | h3 | h3
    · exact absurd h3.2.2.2 e2
    · exact absurd e0 h3.1
    · exact absurd e1 h3.1
    · have h4 := h3.2
      rw [zCi_n e0, zCi_n e1, zCi_o hL e2] at h4
      omega
  · have n1 := zAg_n (g := g) (L := L) (t := 0) (u := 1) (e := a) (Or.inl e0)
    have n2 := zAg_n (g := g) (L := L) (t := 0) (u := 2) (e := b) (Or.inl e0)
    have n3 := zAg_n (g := g) (L := L) (t := 1) (u := 2) (e := b - a) (Or.inr e2)
    rw [if_neg (fun w => e1 w.2.1)]
    rcases h3 with h3 | h3 | h3 | h3
    · exact absurd h3.2.2.1 e1
    · exact absurd e0 h3.1
    · have h4 := h3.2
      rw [zCi_n e0, zCi_o hL e1, zCi_n e2] at h4
      omega
    · exact absurd e2 h3.1
  · have n1 := zAg_n (g := g) (L := L) (t := 0) (u := 1) (e := a) (Or.inl e0)
    have n2 := zAg_n (g := g) (L := L) (t := 0) (u := 2) (e := b) (Or.inl e0)
    have q1 := p1 e1
    have q2 := p2 e2
    rw [zCi_n e0, zCi_o hL e1] at q1
    rw [zCi_n e0, zCi_o hL e2] at q2
    rw [if_neg (fun w => e1 w.2.1)]
    have hx := zPr (s := s) (i := i) (e := b - a) hL e1 e2 (by rw [s1, s2])
    rcases h3 with h3 | h3 | h3 | h3
    · exact absurd h3.2.2.1 e1
    · exact absurd e0 h3.1
    · have h4 := h3.2
      rw [zCi_n e0, zCi_o hL e1] at h4
      rcases hx with hx | hx | hx | hx <;> omega
    · have h4 := h3.2
      rw [zCi_n e0, zCi_o hL e2] at h4
      rcases hx with hx | hx | hx | hx <;> omega
  · have n1 := zAg_n (g := g) (L := L) (t := 0) (u := 1) (e := a) (Or.inr e1)
    have n2 := zAg_n (g := g) (L := L) (t := 0) (u := 2) (e := b) (Or.inr e2)
    have n3 := zAg_n (g := g) (L := L) (t := 1) (u := 2) (e := b - a) (Or.inl e1)
    rw [if_neg (fun w => e0 w.1)]
    rcases h3 with h3 | h3 | h3 | h3
    · exact absurd h3.2.1 e0
    · have h4 := h3.2
      rw [zCi_o hL e0, zCi_n e1, zCi_n e2] at h4
      omega
    · exact absurd e1 h3.1
    · exact absurd e2 h3.1
  · have n1 := zAg_n (g := g) (L := L) (t := 0) (u := 1) (e := a) (Or.inr e1)
    have n3 := zAg_n (g := g) (L := L) (t := 1) (u := 2) (e := b - a) (Or.inl e1)
    have q0 := p0 e0
    have q2 := p2 e2
    rw [zCi_o hL e0, zCi_n e1] at q0
    rw [zCi_n e1, zCi_o hL e2] at q2
    rw [if_neg (fun w => e0 w.1)]
    have hx := zPr (s := s) (i := i) (e := b) hL e0 e2 (by rw [s0, s2]; omega)
    rcases h3 with h3 | h3 | h3 | h3
    · exact absurd h3.2.1 e0
    · have h4 := h3.2
      rw [zCi_o hL e0, zCi_n e1] at h4
      rcases hx with hx | hx | hx | hx <;> omega
    · exact absurd e1 h3.1
    · have h4 := h3.2
      rw [zCi_n e1, zCi_o hL e2] at h4
      rcases hx with hx | hx | hx | hx <;> omega
  · have n2 := zAg_n (g := g) (L := L) (t := 0) (u := 2) (e := b) (Or.inr e2)
    have n3 := zAg_n (g := g) (L := L) (t := 1) (u := 2) (e := b - a) (Or.inr e2)
    have q0 := p0 e0
    have q1 := p1 e1
    rw [zCi_o hL e0, zCi_n e2] at q0
    rw [zCi_o hL e1, zCi_n e2] at q1
    rw [if_neg (fun w => e0 w.1)]
    have hx := zPr (s := s) (i := i) (e := a) hL e0 e1 (by rw [s0, s1]; omega)
    rcases h3 with h3 | h3 | h3 | h3
    · exact absurd h3.2.1 e0
    · have h4 := h3.2
      rw [zCi_o hL e0, zCi_n e2] at h4
      rcases hx with hx | hx | hx | hx <;> omega
    · have h4 := h3.2
      rw [zCi_o hL e1, zCi_n e2] at h4
      rcases hx with hx | hx | hx | hx <;> omega
    · exact absurd e2 h3.1
  · have q0 := p0 e0
    have q1 := p1 e1
    have q2 := p2 e2
    rw [zCi_o hL e0] at q0
    rw [zCi_o hL e1] at q1
    rw [zCi_o hL e2] at q2
    rw [if_neg (fun w => e0 w.1)]
    have hx := zPr (s := s) (i := i) (e := a) hL e0 e1 (by rw [s0, s1]; omega)
    have hy := zPr (s := s) (i := i) (e := b) hL e0 e2 (by rw [s0, s2]; omega)
    have hz := zPr (s := s) (i := i) (e := b - a) hL e1 e2 (by rw [s1, s2])
    clear p0 p1 p2
    rcases h3 with h3 | h3 | h3 | h3
    · exact absurd h3.2.1 e0
    · have h4 := h3.2
      rw [zCi_o hL e0] at h4
      clear h3
      rcases hx with hx | hx | hx | hx <;> rcases hy with hy | hy | hy | hy <;> rcases hz with hz | hz | hz | hz <;> omega
    · have h4 := h3.2
      rw [zCi_o hL e1] at h4
      clear h3
      rcases hx with hx | hx | hx | hx <;> rcases hy with hy | hy | hy | hy <;> rcases hz with hz | hz | hz | hz <;> omega
    · have h4 := h3.2
      rw [zCi_o hL e2] at h4
      clear h3
      rcases hx with hx | hx | hx | hx <;> rcases hy with hy | hy | hy | hy <;> rcases hz with hz | hz | hz | hz <;> omega
