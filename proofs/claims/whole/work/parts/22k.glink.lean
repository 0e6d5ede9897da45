/-! the grits: rows of the class against the table of the reference -/
/-- a way through the last c grits, behind u, that takes just t by v wets -/
def zPa (q : Nat) (tk : Nat → Nat) (pt : Nat → Int) : Nat → Nat → Nat → Nat → Prop
  | 0, _, t, v => t = 0 ∧ v = 0
  | c + 1, u, t, v => (1 ≤ c ∧ zPa q tk pt c u t v) ∨ ∃ w, 1 ≤ w ∧ w ≤ 30 ∧ zCe pt u ((w * tk (q - (c + 1)) : Nat) : Int) ∧ w * tk (q - (c + 1)) ≤ t ∧ w ≤ v ∧ zPa q tk pt c (q - (c + 1) + 1) (t - w * tk (q - (c + 1))) (v - w)
def zLa (u : Nat) : Nat := if u = 0 then 6 else u - 1
theorem zLa_s (u : Nat) : zLa (u + 1) = u := if_neg (by omega)
theorem zLa_ce {pt : Nat → Int} {u : Nat} {x : Int} (hu : u ≤ 6) : zCe pt u x ↔ ¬ (zLa u < 6 ∧ x < 3 * pt (zLa u)) := by
  unfold zCe zLa
  by_cases h : u = 0
  · rw [if_pos h]
    exact ⟨fun _ w => absurd w.1 (by omega), fun _ => Or.inl h⟩
  · rw [if_neg h]
    exact ⟨fun w e => w.elim h (fun z => by omega), fun w => Or.inr (by have := fun z => w ⟨by omega, z⟩; omega)⟩
theorem zPa_b {q : Nat} {tk : Nat → Nat} {pt : Nat → Int} : ∀ {c u t v : Nat}, zPa q tk pt c u t v → v ≤ 30 * c
  | 0, u, t, v, h => by have := h.2; omega
  | c + 1, u, t, v, h => by
    rcases h with ⟨_, h⟩ | ⟨w, w1, w2, _, _, w5, h⟩
    · have := zPa_b h; omega
    · have := zPa_b h; omega
theorem zPa_up {q : Nat} {tk : Nat → Nat} {pt : Nat → Int} {c u t v : Nat} (hc : 1 ≤ c) (h : zPa q tk pt c u t v) : ∀ {e}, c ≤ e → zPa q tk pt e u t v := by
  intro e
  induction e with
  | zero => intro h2; omega
  | succ e ih =>
    intro h2
    by_cases z : c = e + 1
    · exact z ▸ h
    · exact Or.inl ⟨by omega, ih (by omega)⟩
theorem zPa_of {D top q : Nat} {tk : Nat → Nat} {pt : Nat → Int} (hq : q ≤ 6) : ∀ {c u sum : Nat}, c ≤ q → u ≤ 6 → sum ≤ top → zMq D top q tk pt c (zLa u) sum < 1000000 → ∃ t, zPa q tk pt c u t (zMq D top q tk pt c (zLa u) sum) ∧ D ≤ sum + t ∧ sum + t ≤ top := by
  intro c
  induction c with
  | zero =>
    intro u sum hc hu hs h
    by_cases e : D ≤ sum
    · have e2 : zMq D top q tk pt 0 (zLa u) sum = 0 := by
        show (if D ≤ sum then 0 else 1000000) = 0
        rw [if_pos e]
      rw [e2]
      exact ⟨0, ⟨rfl, rfl⟩, by omega, by omega⟩
    · have e2 : zMq D top q tk pt 0 (zLa u) sum = 1000000 := by
        show (if D ≤ sum then 0 else 1000000) = 1000000
        rw [if_neg e]
      omega
  | succ c ih =>
    intro u sum hc hu hs h
    have h1 : zLm 1000000 (zMw top q tk pt (zMq D top q tk pt c) (q - (c + 1)) (zLa u) sum) 31 < 1000000 := h
    show ∃ t, zPa q tk pt (c + 1) u t (zLm 1000000 (zMw top q tk pt (zMq D top q tk pt c) (q - (c + 1)) (zLa u) sum) 31) ∧ _
    rcases zLm_at 1000000 (zMw top q tk pt (zMq D top q tk pt c) (q - (c + 1)) (zLa u) sum) 31 with e | ⟨w, e1, e2⟩
    · omega
    · rw [e2] at h1 ⊢
      obtain ⟨f1, f2, f3, f4⟩ := zMw_fin h1
      rw [← f4]
      by_cases hw : 1 ≤ w
      · rw [if_pos hw] at f4 ⊢
        have h3 : zMq D top q tk pt c (zLa (q - (c + 1) + 1)) (sum + w * tk (q - (c + 1))) < 1000000 := by rw [zLa_s]; omega
        obtain ⟨t, t1, t2, t3⟩ := ih (show c ≤ q by omega) (show q - (c + 1) + 1 ≤ 6 by omega) f1 h3
        rw [zLa_s] at t1
        refine ⟨t + w * tk (q - (c + 1)), Or.inr ⟨w, hw, by omega, (zLa_ce hu).mpr (fun z => f2 ⟨hw, z.1, z.2⟩), by omega, by omega, ?_⟩, by omega, by omega⟩
        rw [Nat.add_sub_cancel, Nat.add_sub_cancel]
        exact t1
      · obtain rfl : w = 0 := by omega
        rw [if_neg hw] at f4 ⊢
        simp only [Nat.zero_mul, Nat.add_zero] at f4 ⊢
        have h3 : zMq D top q tk pt c (zLa u) sum < 1000000 := by omega
        obtain ⟨t, t1, t2, t3⟩ := ih (show c ≤ q by omega) hu hs h3
        exact ⟨t, Or.inl ⟨by omega, t1⟩, t2, t3⟩
theorem zPa_lb {D top q : Nat} {tk : Nat → Nat} {pt : Nat → Int} (hq : q ≤ 6) : ∀ {c u sum t v : Nat}, c ≤ q → u ≤ 6 → zPa q tk pt c u t v → D ≤ sum + t → sum + t ≤ top → zMq D top q tk pt c (zLa u) sum ≤ v
  | 0, u, sum, t, v, _, hu, h, h1, h2 => by
    obtain ⟨rfl, rfl⟩ := h
    show (if D ≤ sum then 0 else 1000000) ≤ 0
    rw [if_pos (by omega)]; exact Nat.le_refl _
  | c + 1, u, sum, t, v, hc, hu, h, h1, h2 => by
    show zLm 1000000 (zMw top q tk pt (zMq D top q tk pt c) (q - (c + 1)) (zLa u) sum) 31 ≤ v
    rcases h with ⟨a1, a2⟩ | ⟨w, w1, w2, w3, w4, w5, w6⟩
    · refine Nat.le_trans (zLm_lb (show 0 < 31 by omega)) ?_
      have := zPa_lb hq (show c ≤ q by omega) hu a2 h1 h2
      unfold zMw
      rw [Nat.zero_mul, if_neg (by omega), if_neg (by omega)]
      exact this
    · refine Nat.le_trans (zLm_lb (show w < 31 by omega)) ?_
      have := zPa_lb (D := D) (top := top) hq (show c ≤ q by omega) (show q - (c + 1) + 1 ≤ 6 by omega) w6 (show D ≤ (sum + w * tk (q - (c + 1))) + (t - w * tk (q - (c + 1))) by omega) (by omega)
      rw [zLa_s] at this
      have hce := (zLa_ce hu).mp w3
      unfold zMw
      rw [if_neg (by
        intro z
        rcases z with z | z | z
        · omega
        · exact hce ⟨z.2.1, z.2.2⟩
        · omega), if_pos w1]
      omega
theorem zPa_R {q : Nat} {tk : Nat → Nat} {pt : Nat → Int} {R : Nat → Nat → Nat} (hq : q ≤ 6) (hq0 : q ≠ 0) (hR : ∀ u, u ≤ q → zGr pt tk q R u) : ∀ {c u t v : Nat}, u + c ≤ q → (c = 0 → u = q) → t < 2101 → zPa q tk pt c u t v → R u t ≤ v
  | 0, u, t, v, _, h0, ht, h => by
    obtain ⟨rfl, rfl⟩ := h
    have e := h0 rfl
    have := (hR u (by omega)).1 0
    rw [show zG0 q u 0 = 0 from if_pos ⟨rfl, e, hq0⟩] at this
    exact this
  | c + 1, u, t, v, hu, h0, ht, h => by
    rcases h with ⟨a1, a2⟩ | ⟨w, w1, w2, w3, w4, w5, w6⟩
    · exact zPa_R hq hq0 hR (by omega) (by omega) ht a2
    · have h2 := zPa_R hq hq0 hR (show q - (c + 1) + 1 + c ≤ q by omega) (by omega) (by omega) w6
      have hb := zPa_b w6
      have := (hR u (by omega)).2.1 (q - (c + 1)) (t - w * tk (q - (c + 1))) w (by omega) (by omega) ⟨by omega, by omega, w1, w2, w3⟩ (by omega)
      rw [show t - w * tk (q - (c + 1)) + w * tk (q - (c + 1)) = t by omega] at this
      omega
theorem zR_Pa {q : Nat} {tk : Nat → Nat} {pt : Nat → Int} {R : Nat → Nat → Nat} (hR : ∀ u, u ≤ q → zGr pt tk q R u) : ∀ (n : Nat) {u t : Nat}, q - u ≤ n → u ≤ q → R u t < 1000 → zPa q tk pt (q - u) u t (R u t) := by
  intro n
  induction n with
  | zero =>
    intro u t h1 h2 h3
    rcases (hR u h2).2.2 t with e | ⟨nx, t2, w, a1, a2, a3, a4, a5⟩
    · rw [show q - u = 0 by omega, e]
      rw [e] at h3
      unfold zG0 at h3 ⊢
      by_cases z : t = 0 ∧ u = q ∧ ¬ q = 0
      · rw [if_pos z]; exact ⟨z.1, rfl⟩
      · rw [if_neg z] at h3; omega
    · omega
  | succ n ih =>
    intro u t h1 h2 h3
    rcases (hR u h2).2.2 t with e | ⟨nx, t2, w, a1, a2, a3, a4, a5⟩
    · rw [e]
      rw [e] at h3
      unfold zG0 at h3 ⊢
      by_cases z : t = 0 ∧ u = q ∧ ¬ q = 0
      · rw [if_pos z, z.2.1, Nat.sub_self]; exact ⟨z.1, rfl⟩
      · rw [if_neg z] at h3; omega
    · have g := ih (u := nx + 1) (t := t2) (by omega) (by omega) (by omega)
      have hp : zPa q tk pt (q - (nx + 1) + 1) u t (R u t) := by
        refine Or.inr ⟨w, a3.2.2.1, a3.2.2.2.1, ?_, ?_, by omega, ?_⟩
        · rw [show q - (q - (nx + 1) + 1) = nx by omega]; exact a3.2.2.2.2
        · rw [show q - (q - (nx + 1) + 1) = nx by omega]; omega
        · rw [show q - (q - (nx + 1) + 1) = nx by omega, show t - w * tk nx = t2 by omega, show R u t - w = R (nx + 1) t2 by omega]
          exact g
      exact zPa_up (by omega) hp (by omega)
/-- the least of a row, against the table -/
theorem zLink {D top q : Nat} {tk : Nat → Nat} {pt : Nat → Int} {R : Nat → Nat → Nat} (hq : q ≤ 6) (hq0 : q ≠ 0) (hR : ∀ u, u ≤ q → zGr pt tk q R u) {u sum : Nat} (hu : u ≤ q) (hs : sum ≤ top) (ht : top ≤ 2100) (hD : D ≤ top) {low high : Int} (hl : low = (D : Int) - (sum : Int)) (hh : high = (top : Int) - (sum : Int)) :
    (zMq D top q tk pt (q - u) (zLa u) sum < 1000000 → zLw (R u) low high = zMq D top q tk pt (q - u) (zLa u) sum ∧ zMq D top q tk pt (q - u) (zLa u) sum ≤ 180) ∧ (¬ zMq D top q tk pt (q - u) (zLa u) sum < 1000000 → zLw (R u) low high = 1000) := by
  have hc : zLc low high = ((high + 1) - (low.toNat : Int)).toNat := by
    unfold zLc
    by_cases e : high + 1 ≤ 2101
    · rw [if_pos e]
    · omega
  have hlow : ∀ j, j < zLc low high → R u (low.toNat + j) < 1000 → zMq D top q tk pt (q - u) (zLa u) sum ≤ R u (low.toNat + j) := fun j hj h => by
    rw [hc] at hj
    exact zPa_lb hq (by omega) (by omega) (zR_Pa hR _ (Nat.le_refl _) hu h) (by omega) (by omega)
  have hat := zLo_at (R u) low.toNat (zLc low high)
  refine ⟨fun h => ?_, fun h => ?_⟩
  · obtain ⟨t, t1, t2, t3⟩ := zPa_of hq (show q - u ≤ q by omega) (show u ≤ 6 by omega) hs h
    have hb := zPa_b t1
    have h1 := zPa_R hq hq0 hR (show u + (q - u) ≤ q by omega) (by omega) (by omega) t1
    have h2 := zLo_lb (f := R u) (s := low.toNat) (c := zLc low high) (j := t - low.toNat) (by rw [hc]; clear hat hlow; omega)
    rw [show low.toNat + (t - low.toNat) = t by omega] at h2
    refine ⟨?_, by omega⟩
    unfold zLw
    rcases hat with e | ⟨j, j1, j2⟩
    · omega
    · have := hlow j j1 (by omega)
      omega
  · unfold zLw
    rcases hat with e | ⟨j, j1, j2⟩
    · exact e
    · have h3 := zLo_le (R u) low.toNat (zLc low high)
      by_cases z : R u (low.toNat + j) < 1000
      · have := hlow j j1 z
        omega
      · omega
theorem zLw_none (f : Nat → Nat) {low high : Int} (h : high < 0) : zLw f low high = 1000 := by
  unfold zLw
  rw [show zLc low high = 0 from by
    unfold zLc
    by_cases e : high + 1 ≤ 2101
    · rw [if_pos e]; omega
    · omega]
  rfl
/-- so many wets serve in the class just where they do in the reference -/
theorem zServes {D top q : Nat} {tk : Nat → Nat} {pt : Nat → Int} {R : Nat → Nat → Nat} (hq : q ≤ 6) (hR : ∀ u, u ≤ q → zGr pt tk q R u) {g u s v w : Nat} (hg : g < q) (hu : u ≤ 6) (ht : top ≤ 2100) (hD : D ≤ top) (hv : v ≤ 180) (hw : 1 ≤ w) {low high : Int} (hl : low = (D : Int) - (s : Int) - ((w * tk g : Nat) : Int)) (hh : high = (top : Int) - (s : Int) - ((w * tk g : Nat) : Int)) :
    (zCe pt u ((w * tk g : Nat) : Int) ∧ ((zLw (R (g + 1)) low high : Nat) : Int) = (v : Int) - (w : Int)) ↔ zMw top q tk pt (zMq D top q tk pt (q - (g + 1))) g (zLa u) s w = v := by
  constructor
  · rintro ⟨h1, h2⟩
    have hce := (zLa_ce hu).mp h1
    have hs : s + w * tk g ≤ top := by
      refine Nat.le_of_not_lt fun z => ?_
      rw [zLw_none _ (by omega)] at h2
      omega
    have hk := zLink (D := D) hq (by omega) hR (u := g + 1) (sum := s + w * tk g) (low := low) (high := high) (by omega) hs ht hD (by omega) (by omega)
    rw [zLa_s] at hk
    have hm : zMq D top q tk pt (q - (g + 1)) g (s + w * tk g) < 1000000 := by
      refine Decidable.byContradiction fun z => ?_
      rw [hk.2 z] at h2
      omega
    have := (hk.1 hm).1
    unfold zMw
    rw [if_neg (by
      intro z
      rcases z with z | z | z
      · omega
      · exact hce ⟨z.2.1, z.2.2⟩
      · omega), if_pos hw]
    omega
  · intro h
    obtain ⟨f1, f2, f3, f4⟩ := zMw_fin (show zMw top q tk pt (zMq D top q tk pt (q - (g + 1))) g (zLa u) s w < 1000000 by omega)
    rw [if_pos hw] at f4
    have hk := zLink (D := D) hq (by omega) hR (u := g + 1) (sum := s + w * tk g) (low := low) (high := high) (by omega) f1 ht hD (by omega) (by omega)
    rw [zLa_s] at hk
    refine ⟨(zLa_ce hu).mpr (fun z => f2 ⟨hw, z.1, z.2⟩), ?_⟩
    have := (hk.1 (by omega)).1
    omega
theorem zLink_0 {D S q : Nat} {tk : Nat → Nat} {pt : Nat → Int} {R : Nat → Nat → Nat} (hq : q ≤ 6) (hR : ∀ u, u ≤ q → zGr pt tk q R u) (ht : D + S ≤ 2100) :
    ((zTr D S q tk pt 0).2.2 < 1000000 → zLw (R 0) (D : Int) ((D : Int) + (S : Int)) = (zTr D S q tk pt 0).2.2 ∧ (zTr D S q tk pt 0).2.2 ≤ 180) ∧ (¬ (zTr D S q tk pt 0).2.2 < 1000000 → zLw (R 0) (D : Int) ((D : Int) + (S : Int)) = 1000) := by
  by_cases h : q = 0
  · subst h
    have e : (zTr D S 0 tk pt 0).2.2 = 1000000 := by
      show (if 0 = 0 then 1000000 else zMq D (D + S) 0 tk pt 0 6 0) = 1000000
      exact if_pos rfl
    refine ⟨fun w => by rw [e] at w; omega, fun _ => ?_⟩
    have hz : ∀ x, R 0 x = 1000 := fun x => by
      rcases (hR 0 (by omega)).2.2 x with e | ⟨nx, t2, w, a1, a2, _⟩
      · rw [e]; exact if_neg (fun z => z.2.2 rfl)
      · omega
    unfold zLw
    rcases zLo_at (R 0) (D : Int).toNat (zLc (D : Int) ((D : Int) + (S : Int))) with e | ⟨j, _, j2⟩
    · exact e
    · rw [j2]; exact hz _
  · have e : (zTr D S q tk pt 0).2.2 = zMq D (D + S) q tk pt q 6 0 := if_neg h
    rw [e]
    have hk := zLink (D := D) (top := D + S) hq h hR (u := 0) (sum := 0) (low := (D : Int)) (high := (D : Int) + (S : Int)) (by omega) (by omega) ht (by omega) (by omega) (by omega)
    exact hk
