/-! ## Layer B: rings of debts -/
abbrev mb_E (T : Nat → Int32) (x y : Nat) : Prop := 0 < T (75 + 4 * x + y)
theorem lb_min4 {A : Nat → Prop} (h : ∃ o, o < 4 ∧ A o) : ∃ o, o < 4 ∧ A o ∧ ∀ o', o' < o → ¬ A o' := by
  obtain ⟨o, h1, h2⟩ := h
  by_cases a0 : A 0
  · exact ⟨0, by omega, a0, fun o' h => by omega⟩
  · by_cases a1 : A 1
    · exact ⟨1, by omega, a1, fun o' h => by rw [show o' = 0 by omega]; exact a0⟩
    · by_cases a2 : A 2
      · refine ⟨2, by omega, a2, fun o' h => ?_⟩
        have : o' = 0 ∨ o' = 1 := by omega
        rcases this with rfl | rfl
        · exact a0
        · exact a1
      · by_cases a3 : A 3
        · refine ⟨3, by omega, a3, fun o' h => ?_⟩
          have : o' = 0 ∨ o' = 1 ∨ o' = 2 := by omega
          rcases this with rfl | rfl | rfl
          · exact a0
          · exact a1
          · exact a2
        · have : o = 0 ∨ o = 1 ∨ o = 2 ∨ o = 3 := by omega
          rcases this with rfl | rfl | rfl | rfl
          · exact absurd h2 a0
          · exact absurd h2 a1
          · exact absurd h2 a2
          · exact absurd h2 a3
theorem lb_r2 {T : Nat → Int32} {x y : Nat} (hx : x < 4) : mb_R T x 2 y ↔ ∃ k, k < 4 ∧ mb_E T x k ∧ mb_E T k y :=
  ⟨fun ⟨k, h1, h2, h3⟩ => ⟨k, h1, (lb_R1 hx).mp h2, h3⟩, fun ⟨k, h1, h2, h3⟩ => ⟨k, h1, (lb_R1 hx).mpr h2, h3⟩⟩
theorem lb_r3 {T : Nat → Int32} {x y : Nat} (hx : x < 4) : mb_R T x 3 y ↔ ∃ j k, j < 4 ∧ k < 4 ∧ mb_E T x j ∧ mb_E T j k ∧ mb_E T k y := by
  constructor
  · rintro ⟨k, h1, h2, h3⟩
    obtain ⟨j, a, b, c⟩ := (lb_r2 hx).mp h2
    exact ⟨j, k, a, h1, b, c, h3⟩
  · rintro ⟨j, k, a, b, c, d, e⟩
    exact ⟨k, b, (lb_r2 hx).mpr ⟨j, a, c, d⟩, e⟩
theorem lb_r4 {T : Nat → Int32} {x y : Nat} (hx : x < 4) : mb_R T x 4 y ↔ ∃ i j k, i < 4 ∧ j < 4 ∧ k < 4 ∧ mb_E T x i ∧ mb_E T i j ∧ mb_E T j k ∧ mb_E T k y := by
  constructor
  · rintro ⟨k, h1, h2, h3⟩
    obtain ⟨i, j, a, b, c, d, e⟩ := (lb_r3 hx).mp h2
    exact ⟨i, j, k, a, b, h1, c, d, e, h3⟩
  · rintro ⟨i, j, k, a, b, c, d, e, f, g⟩
    exact ⟨k, c, (lb_r3 hx).mpr ⟨i, j, a, b, d, e, f⟩, g⟩
theorem lb_ds1 {T : Nat → Int32} {x y : Nat} (hx : x < 4) : mb_Ds T x y (nI 1) ↔ mb_E T x y := by
  constructor
  · rintro (⟨d, a, b, c, e, f⟩ | ⟨a, -⟩)
    · have : d = 1 := ((lb_inj (by omega) (by omega)).mp c).symm
      subst this; exact (lb_R1 hx).mp e
    · exact absurd a (lb_n6 (by omega))
  · intro h
    exact Or.inl ⟨1, by omega, by omega, rfl, (lb_R1 hx).mpr h, fun e a b => by omega⟩
theorem lb_dsn {T : Nat → Int32} {x y d : Nat} (hd : 1 ≤ d) (hd4 : d ≤ 4) : mb_Ds T x y (nI d) ↔ mb_R T x d y ∧ ∀ e, 1 ≤ e → e < d → ¬ mb_R T x e y := by
  constructor
  · rintro (⟨d', a, b, c, e, f⟩ | ⟨a, -⟩)
    · have : d = d' := (lb_inj (by omega) (by omega)).mp c
      subst this; exact ⟨e, f⟩
    · exact absurd a (lb_n6 (by omega))
  · rintro ⟨a, b⟩
    exact Or.inl ⟨d, hd, hd4, rfl, a, b⟩
abbrev mb_th (p m c : Nat) : Nat := if m > 2 then c / 4 % 4 else p
abbrev mb_fr (p m c : Nat) : Nat := if m > 3 then c % 4 else p
abbrev mb_Is (T : Nat → Int32) (p m c : Nat) : Prop := (c / 16 ≠ p ∧ mb_E T p (c / 16) ∧ mb_E T (c / 16) (mb_th p m c)) ∧ (m < 3 ∨ mb_th p m c ≠ p ∧ mb_E T (mb_th p m c) (mb_fr p m c)) ∧ (m < 4 ∨ mb_fr p m c ≠ p ∧ mb_fr p m c ≠ c / 16 ∧ mb_E T (mb_fr p m c) p)
def mb_v (p m c : Nat) (j : Nat) : Nat := if j = 0 then p else if j = 1 then c / 16 else if j = 2 then mb_th p m c else if j = 3 then mb_fr p m c else p
abbrev mb_NX (T : Nat → Int32) (x p s o : Nat) : Prop := mb_E T x o ∧ mb_Ds T o p (nI (s - 1)) ∧ ∀ o', o' < o → ¬ (mb_E T x o' ∧ mb_Ds T o' p (nI (s - 1)))
/-- the shortest and lowest ring, on both sides -/
theorem lb_ring {T : Nat → Int32} {p : Nat} (hp : p < 4) (dz : ∀ k, k < 4 → ¬ mb_E T k k) {r : Int32} (h : mb_Ds T p p r) :
    (r = -6 ∧ ∀ m c, 2 ≤ m → m ≤ 4 → c < 64 → ¬ mb_Is T p m c) ∨ (∃ d c, 2 ≤ d ∧ d ≤ 4 ∧ c < 64 ∧ r = nI d ∧ (∀ m c', 2 ≤ m → m < d → c' < 64 → ¬ mb_Is T p m c') ∧ mb_Is T p d c ∧ (∀ c', c' < c → ¬ mb_Is T p d c') ∧ ∀ s, s < d → (s + 1 = d → mb_v p d c (s + 1) = p) ∧ (s + 1 < d → mb_NX T (mb_v p d c s) p (d - s) (mb_v p d c (s + 1)))) := by
  have i2 : ∀ c, c < 64 → mb_Is T p 2 c → mb_R T p 2 p := by
    rintro c hc ⟨⟨a, b, e⟩, -, -⟩
    exact (lb_r2 hp).mpr ⟨c / 16, by omega, b, e⟩
  have i3 : ∀ c, c < 64 → mb_Is T p 3 c → mb_R T p 3 p := by
    rintro c hc ⟨⟨a, b, e⟩, f, -⟩
    rcases f with f | ⟨f, g⟩
    · omega
    · exact (lb_r3 hp).mpr ⟨c / 16, c / 4 % 4, by omega, by omega, b, e, g⟩
  have i4 : ∀ c, c < 64 → mb_Is T p 4 c → mb_R T p 4 p := by
    rintro c hc ⟨⟨a, b, e⟩, f, g⟩
    rcases f with f | ⟨f, f2⟩
    · omega
    · rcases g with g | ⟨g, g2, g3⟩
      · omega
      · exact (lb_r4 hp).mpr ⟨c / 16, c / 4 % 4, c % 4, by omega, by omega, by omega, b, e, f2, g3⟩
  have inm : ∀ m c, 2 ≤ m → m ≤ 4 → c < 64 → mb_Is T p m c → mb_R T p m p := by
    intro m c h1 h2 h3 h4
    have : m = 2 ∨ m = 3 ∨ m = 4 := by omega
    rcases this with rfl | rfl | rfl
    · exact i2 c h3 h4
    · exact i3 c h3 h4
    · exact i4 c h3 h4
  rcases h with ⟨d, a1, a2, a3, a4, a5⟩ | ⟨a1, a2⟩
  · right
    have n1 : ¬ mb_R T p 1 p := fun h => dz p hp ((lb_R1 hp).mp h)
    have hd1 : d ≠ 1 := by intro e; subst e; exact n1 a4
    have low : ∀ m c', 2 ≤ m → m < d → c' < 64 → ¬ mb_Is T p m c' := fun m c' h1 h2 h3 h4 => a5 m (by omega) h2 (inm m c' h1 (by omega) h3 h4)
    have hd : d = 2 ∨ d = 3 ∨ d = 4 := by omega
    rcases hd with rfl | rfl | rfl
    · -- two players
      obtain ⟨k, k1, k2, k3⟩ := (lb_r2 hp).mp a4
      obtain ⟨o, o1, ⟨o2, o3⟩, o4⟩ := lb_min4 (A := fun o => mb_E T p o ∧ mb_E T o p) ⟨k, k1, k2, k3⟩
      have op : o ≠ p := by intro e; subst e; exact dz o hp o2
      have c16 : 16 * o / 16 = o := by omega
      refine ⟨2, 16 * o, by omega, by omega, by omega, a3, low, ?_, ?_, ?_⟩
      · refine ⟨⟨by rw [c16]; exact op, by rw [c16]; exact o2, by rw [c16]; exact o3⟩, Or.inl (by omega), Or.inl (by omega)⟩
      · rintro c' hc' ⟨⟨b1, b2, b3⟩, -, -⟩
        by_cases e : c' / 16 < o
        · exact o4 _ e ⟨b2, b3⟩
        · omega
      · intro s hs
        refine ⟨fun e => ?_, fun e => ?_⟩
        · have : s = 1 := by omega
          subst this; rfl
        · have : s = 0 := by omega
          subst this
          show mb_NX T p p 2 (16 * o / 16)
          rw [c16]
          refine ⟨o2, (lb_ds1 o1).mpr o3, fun o' h1 h2 => o4 o' h1 ⟨h2.1, (lb_ds1 (by omega)).mp h2.2⟩⟩
    · -- three
      have n2 : ¬ mb_R T p 2 p := a5 2 (by omega) (by omega)
      have n2' : ∀ o, o < 4 → mb_E T p o → ¬ mb_E T o p := fun o h1 h2 h3 => n2 ((lb_r2 hp).mpr ⟨o, h1, h2, h3⟩)
      obtain ⟨j, k, j1, k1, j2, k2, k3⟩ := (lb_r3 hp).mp a4
      have ds2 : ∀ o, o < 4 → mb_E T p o → (mb_Ds T o p (nI 2) ↔ ∃ k, k < 4 ∧ mb_E T o k ∧ mb_E T k p) := by
        intro o h1 h2
        rw [lb_dsn (by omega) (by omega), lb_r2 h1]
        constructor
        · exact fun h => h.1
        · refine fun h => ⟨h, fun e h3 h4 h5 => ?_⟩
          have : e = 1 := by omega
          subst this
          exact n2' o h1 h2 ((lb_R1 h1).mp h5)
      obtain ⟨o, o1, ⟨o2, o3⟩, o4⟩ := lb_min4 (A := fun o => mb_E T p o ∧ mb_Ds T o p (nI 2)) ⟨j, j1, j2, (ds2 j j1 j2).mpr ⟨k, k1, k2, k3⟩⟩
      obtain ⟨q, q1, ⟨q2, q3⟩, q4⟩ := lb_min4 (A := fun q => mb_E T o q ∧ mb_E T q p) ((ds2 o o1 o2).mp o3)
      have op : o ≠ p := by intro e; subst e; exact dz o hp o2
      have qp : q ≠ p := by intro e; subst e; exact dz q hp q3
      have c16 : (16 * o + 4 * q) / 16 = o := by omega
      have c4 : (16 * o + 4 * q) / 4 % 4 = q := by omega
      have e3 : mb_th p 3 (16 * o + 4 * q) = q := c4
      have e4 : mb_fr p 3 (16 * o + 4 * q) = p := rfl
      refine ⟨3, 16 * o + 4 * q, by omega, by omega, by omega, a3, low, ?_, ?_, ?_⟩
      · refine ⟨⟨by rw [c16]; exact op, by rw [c16]; exact o2, by rw [c16, e3]; exact q2⟩, Or.inr ⟨by rw [e3]; exact qp, by rw [e3, e4]; exact q3⟩, Or.inl (by omega)⟩
      · rintro c' hc' ⟨⟨b1, b2, b3⟩, b4, -⟩
        have b3 : mb_E T (c' / 16) (c' / 4 % 4) := b3
        rcases b4 with b4 | ⟨b4, b5⟩
        · omega
        · have b5 : mb_E T (c' / 4 % 4) p := b5
          by_cases e : c' / 16 < o
          · exact o4 _ e ⟨b2, (ds2 _ (by omega) b2).mpr ⟨_, by omega, b3, b5⟩⟩
          · have eo : c' / 16 = o := by omega
            rw [eo] at b3
            by_cases e2 : c' / 4 % 4 < q
            · exact q4 _ e2 ⟨b3, b5⟩
            · omega
      · intro s hs
        refine ⟨fun e => ?_, fun e => ?_⟩
        · have : s = 2 := by omega
          subst this; rfl
        · have : s = 0 ∨ s = 1 := by omega
          rcases this with rfl | rfl
          · show mb_NX T p p 3 ((16 * o + 4 * q) / 16)
            rw [c16]
            exact ⟨o2, o3, o4⟩
          · show mb_NX T ((16 * o + 4 * q) / 16) p 2 (mb_th p 3 (16 * o + 4 * q))
            rw [c16, e3]
            exact ⟨q2, (lb_ds1 q1).mpr q3, fun o' h1 h2 => q4 o' h1 ⟨h2.1, (lb_ds1 (by omega)).mp h2.2⟩⟩
    · -- four
      have n2 : ¬ mb_R T p 2 p := a5 2 (by omega) (by omega)
      have n3 : ¬ mb_R T p 3 p := a5 3 (by omega) (by omega)
      have n2' : ∀ o, o < 4 → mb_E T p o → ¬ mb_E T o p := fun o h1 h2 h3 => n2 ((lb_r2 hp).mpr ⟨o, h1, h2, h3⟩)
      have n3' : ∀ o q, o < 4 → q < 4 → mb_E T p o → mb_E T o q → ¬ mb_E T q p := fun o q h1 h2 h3 h4 h5 => n3 ((lb_r3 hp).mpr ⟨o, q, h1, h2, h3, h4, h5⟩)
      obtain ⟨i, j, k, i1, j1, k1, i2', j2, k2, k3⟩ := (lb_r4 hp).mp a4
      have ds3 : ∀ o, o < 4 → mb_E T p o → (mb_Ds T o p (nI 3) ↔ ∃ j k, j < 4 ∧ k < 4 ∧ mb_E T o j ∧ mb_E T j k ∧ mb_E T k p) := by
        intro o h1 h2
        rw [lb_dsn (by omega) (by omega), lb_r3 h1]
        constructor
        · exact fun h => h.1
        · refine fun h => ⟨h, fun e h3 h4 h5 => ?_⟩
          have : e = 1 ∨ e = 2 := by omega
          rcases this with rfl | rfl
          · exact n2' o h1 h2 ((lb_R1 h1).mp h5)
          · obtain ⟨q, y1, y2, y3⟩ := (lb_r2 h1).mp h5
            exact n3' o q h1 y1 h2 y2 y3
      have ds2 : ∀ o q, o < 4 → q < 4 → mb_E T p o → mb_E T o q → (mb_Ds T q p (nI 2) ↔ ∃ k, k < 4 ∧ mb_E T q k ∧ mb_E T k p) := by
        intro o q h0 h1 h2 h2'
        rw [lb_dsn (by omega) (by omega), lb_r2 h1]
        constructor
        · exact fun h => h.1
        · refine fun h => ⟨h, fun e h3 h4 h5 => ?_⟩
          have : e = 1 := by omega
          subst this
          exact n3' o q h0 h1 h2 h2' ((lb_R1 h1).mp h5)
      obtain ⟨o, o1, ⟨o2, o3⟩, o4⟩ := lb_min4 (A := fun o => mb_E T p o ∧ mb_Ds T o p (nI 3)) ⟨i, i1, i2', (ds3 i i1 i2').mpr ⟨j, k, j1, k1, j2, k2, k3⟩⟩
      obtain ⟨j', k', y1, y2, y3, y4, y5⟩ := (ds3 o o1 o2).mp o3
      obtain ⟨q, q1, ⟨q2, q3⟩, q4⟩ := lb_min4 (A := fun q => mb_E T o q ∧ mb_Ds T q p (nI 2)) ⟨j', y1, y3, (ds2 o j' o1 y1 o2 y3).mpr ⟨k', y2, y4, y5⟩⟩
      obtain ⟨w, w1, ⟨w2, w3⟩, w4⟩ := lb_min4 (A := fun w => mb_E T q w ∧ mb_E T w p) ((ds2 o q o1 q1 o2 q2).mp q3)
      have op : o ≠ p := by intro e; subst e; exact dz o hp o2
      have qp : q ≠ p := by intro e; subst e; exact n2' o o1 o2 q2
      have wp : w ≠ p := by intro e; subst e; exact dz w hp w3
      have wo : w ≠ o := by intro e; subst e; exact n2' w o1 o2 w3
      have c16 : (16 * o + 4 * q + w) / 16 = o := by omega
      have c4 : (16 * o + 4 * q + w) / 4 % 4 = q := by omega
      have c1 : (16 * o + 4 * q + w) % 4 = w := by omega
      have e3 : mb_th p 4 (16 * o + 4 * q + w) = q := c4
      have e4 : mb_fr p 4 (16 * o + 4 * q + w) = w := c1
      refine ⟨4, 16 * o + 4 * q + w, by omega, by omega, by omega, a3, low, ?_, ?_, ?_⟩
      · refine ⟨⟨by rw [c16]; exact op, by rw [c16]; exact o2, by rw [c16, e3]; exact q2⟩, Or.inr ⟨by rw [e3]; exact qp, by rw [e3, e4]; exact w2⟩, Or.inr ⟨by rw [e4]; exact wp, by rw [e4, c16]; exact wo, by rw [e4]; exact w3⟩⟩
      · rintro c' hc' ⟨⟨b1, b2, b3⟩, b4, b6⟩
        have b3 : mb_E T (c' / 16) (c' / 4 % 4) := b3
        rcases b4 with b4 | ⟨b4, b5⟩
        · omega
        · have b5 : mb_E T (c' / 4 % 4) (c' % 4) := b5
          rcases b6 with b6 | ⟨b6, b7, b8⟩
          · omega
          · have b8 : mb_E T (c' % 4) p := b8
            by_cases e : c' / 16 < o
            · exact o4 _ e ⟨b2, (ds3 _ (by omega) b2).mpr ⟨_, _, by omega, by omega, b3, b5, b8⟩⟩
            · have eo : c' / 16 = o := by omega
              rw [eo] at b3
              by_cases e2 : c' / 4 % 4 < q
              · exact q4 _ e2 ⟨b3, (ds2 o _ o1 (by omega) o2 b3).mpr ⟨_, by omega, b5, b8⟩⟩
              · have eq : c' / 4 % 4 = q := by omega
                rw [eq] at b5
                by_cases e5 : c' % 4 < w
                · exact w4 _ e5 ⟨b5, b8⟩
                · omega
      · intro s hs
        refine ⟨fun e => ?_, fun e => ?_⟩
        · have : s = 3 := by omega
          subst this; rfl
        · have : s = 0 ∨ s = 1 ∨ s = 2 := by omega
          rcases this with rfl | rfl | rfl
          · show mb_NX T p p 4 ((16 * o + 4 * q + w) / 16)
            rw [c16]
            exact ⟨o2, o3, o4⟩
          · show mb_NX T ((16 * o + 4 * q + w) / 16) p 3 (mb_th p 4 (16 * o + 4 * q + w))
            rw [c16, e3]
            exact ⟨q2, q3, q4⟩
          · show mb_NX T (mb_th p 4 (16 * o + 4 * q + w)) p 2 (mb_fr p 4 (16 * o + 4 * q + w))
            rw [e3, e4]
            exact ⟨w2, (lb_ds1 w1).mpr w3, fun o' h1 h2 => w4 o' h1 ⟨h2.1, (lb_ds1 (by omega)).mp h2.2⟩⟩
  · left
    exact ⟨a1, fun m c h1 h2 h3 h4 => a2 m (by omega) h2 (inm m c h1 h2 h3 h4)⟩
