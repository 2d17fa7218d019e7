/-! ## Layer B: dice, the way on the ring -/
theorem lb_div {a b : Nat} (ha : a < 2 ^ 31) (hb : b < 2 ^ 31) : nI a / nI b = nI (a / b) := by
  have h1 : a / b ≤ a := Nat.div_le_self a b
  rw [lb_eq, Int32.toInt_div, nI_toInt ha, nI_toInt hb, nI_toInt (by omega)]
  rw [show ((a : Int).tdiv (b : Int)) = ((a / b : Nat) : Int) from (Int.ofNat_tdiv a b).symm]
  generalize a / b = c at h1
  exact Int.bmod_eq_of_le (by omega) (by omega)
theorem lb_sub {a b : Nat} (h : b ≤ a) : nI a - nI b = nI (a - b) := by
  have : nI a = nI (a - b) + nI b := by rw [lb_add]; congr 1; omega
  rw [this, Int32.add_sub_cancel]
theorem lb_mod {a b : Nat} (ha : a < 2 ^ 31) (hb : b < 2 ^ 31) : nI a - nI a / nI b * nI b = nI (a % b) := by
  have h1 : a / b * b ≤ a := Nat.div_mul_le_self a b
  rw [lb_div ha hb, lb_mul, lb_sub h1]
  congr 1
  have h2 := Nat.div_add_mod a b
  rw [Nat.mul_comm] at h2
  omega
def mb_dx (x : Nat) : Nat := (75 * x + 74) % 65537
def mb_dv (x : Nat) : Nat := 1 + mb_dx x / 8 % 6
theorem lb_dx (x : Nat) : mb_dx x < 65537 := Nat.mod_lt _ (by omega)
theorem lb_dv (x : Nat) : 1 ≤ mb_dv x ∧ mb_dv x ≤ 6 := by
  unfold mb_dv
  have := Nat.mod_lt (mb_dx x / 8) (show 0 < 6 by omega)
  omega
theorem lb_dieN {x : Nat} (hx : x < 65537) : ((75 : Int32) * nI x + 74) - ((75 : Int32) * nI x + 74) / 65537 * 65537 = nI (mb_dx x) := by
  rw [show (75 : Int32) = nI 75 from rfl, show (74 : Int32) = nI 74 from rfl, show (65537 : Int32) = nI 65537 from rfl, lb_mul, lb_add, lb_mod (by omega) (by omega)]
  rfl
theorem lb_dieV {x : Nat} : (1 : Int32) + (nI (mb_dx x) / 8 - nI (mb_dx x) / 8 / 6 * 6) = nI (mb_dv x) := by
  have h := lb_dx x
  rw [show (8 : Int32) = nI 8 from rfl, lb_div (by omega) (by omega), show (6 : Int32) = nI 6 from rfl, lb_mod (by omega) (by omega), show (1 : Int32) = nI 1 from rfl, lb_add]
  rfl
theorem lb_die8 {T : Nat → Int32} {x : Nat} (h : T 8 = nI x) (hx : x < 65537) : f8_die T = some (nI (mb_dv x), upd T 8 (nI (mb_dx x))) := by
  unfold f8_die
  rw [lb_k8, lb_k8, lb_k8, lb_c8, lb_us, h, lb_dieN hx, lb_dieV]
theorem lb_die0 {S : ms_T} {x : Nat} (h : S 12 2 = nI x) (hx : x < 65537) : f0_throwDie S = some (nI (mb_dv x), ms_set S 12 (upd (S 12) 2 (nI (mb_dx x)))) := by
  unfold f0_throwDie
  rw [lb_ms, lb_us, h, lb_dieN hx, lb_dieV]
theorem RB.draw {S : ms_T} {T : Nat → Int32} (h : RB S T) (x : Int32) : RB (ms_set S 12 (upd (S 12) 2 x)) (upd T 8 x) := h.setZ (i := 2) (by omega) x
def mb_goesX (T : Nat → Int32) (p x y : Nat) : Nat → Int32 :=
  if y + mb_dv x + mb_dv (mb_dx x) < 20 then upd (upd (upd T 8 (nI (mb_dx x))) 8 (nI (mb_dx (mb_dx x)))) (51 + 6 * p + 1) (nI (y + mb_dv x + mb_dv (mb_dx x)))
  else upd (mb_add (mb_add (upd (upd T 8 (nI (mb_dx x))) 8 (nI (mb_dx (mb_dx x)))) (51 + 6 * p) (T 0)) 10 (T 0)) (51 + 6 * p + 1) (nI ((y + mb_dv x + mb_dv (mb_dx x)) % 20))
def mb_goes (T : Nat → Int32) (p : Nat) : Nat → Int32 := mb_goesX T p (T 8).toNatClampNeg (T (51 + 6 * p + 1)).toNatClampNeg
theorem mb_I.pl' {P t : Nat} {B C A : Int} {T : Nat → Int32} (h : mb_I P t B C A T) {p : Nat} (hp : p < 4) : ∃ y, y < 20 ∧ T (51 + 6 * p + 1) = nI y := by
  obtain ⟨y, hy, e⟩ := h.pl p hp
  exact ⟨y, hy, by rw [← e]; congr 1; omega⟩
theorem lb_goes8 {P t : Nat} {B C A : Int} {T : Nat → Int32} (h : mb_I P t B C A T) {p : Nat} (hp : p < P) (hB : B + 99 ≤ 1000000000) : f8_goes (nI p) T = some (mb_goes T p) ∧ mb_I P t (B + 99) C A (mb_goes T p) := by
  have hP := h.P4
  obtain ⟨x, hx, hx2⟩ := h.dr
  obtain ⟨y, hy, hy2⟩ := h.pl' (p := p) (by omega)
  have d1 := lb_dv x
  have d2 := lb_dv (mb_dx x)
  have e : mb_goes T p = mb_goesX T p x y := by
    unfold mb_goes; rw [hx, hy2, lb_cl (by omega), lb_cl (by omega)]
  rw [e]
  have g1 : mb_I P t B C A (upd (upd T 8 (nI (mb_dx x))) 8 (nI (mb_dx (mb_dx x)))) := (h.setDraw (lb_dx x)).setDraw (lb_dx _)
  have g0 : (upd (upd T 8 (nI (mb_dx x))) 8 (nI (mb_dx (mb_dx x)))) 0 = T 0 := by rw [lb_un (by omega), lb_un (by omega)]
  unfold f8_goes f8_goes_b53
  rw [lb_die8 hx hx2, lb_bd, lb_part1 (by omega), lb_bd, lb_die8 (x := mb_dx x) (lb_us _ _ _) (lb_dx x), lb_bd]
  simp only [lb_un (show 51 + 6 * p + 1 ≠ 8 by omega), hy2, lb_add]
  have ix : ((51 : Int32) + 6 * nI p + 1) = nI (51 + 6 * p + 1) := by
    rw [show (51 : Int32) = nI 51 from rfl, show (6 : Int32) = nI 6 from rfl, show (1 : Int32) = nI 1 from rfl, lb_mul, lb_add, lb_add]
  rw [ix]
  have m20 : nI (y + mb_dv x + mb_dv (mb_dx x)) - nI (y + mb_dv x + mb_dv (mb_dx x)) / 20 * 20 = nI ((y + mb_dv x + mb_dv (mb_dx x)) % 20) := lb_mod (b := 20) (by omega) (by omega)
  rw [m20]
  unfold mb_goesX
  by_cases hc : y + mb_dv x + mb_dv (mb_dx x) < 20
  · rw [if_pos hc, if_pos (show nI (y + mb_dv x + mb_dv (mb_dx x)) < 20 from nI_lt (b := 20) hc (by omega)), lb_ck (by omega) (by omega), lb_cl (by omega), Nat.mod_eq_of_lt hc]
    refine ⟨rfl, ?_⟩
    have g2 := g1.up (B' := B + 99) (by omega) (Int.le_refl _) (Int.le_refl _) hB h.bC h.bA
    have := g2.setPlace hp hc
    rw [show 52 + 6 * p = 51 + 6 * p + 1 by omega] at this
    exact this
  · have hn : ¬ nI (y + mb_dv x + mb_dv (mb_dx x)) < 20 := nI_nlt (b := 20) (by omega) (by omega)
    rw [if_neg hc, if_neg hn]
    simp only [lb_k0, lb_c0, lb_k10, lb_c10, lb_adds0 (show p < 4 by omega), lb_bd]
    rw [lb_ck (by omega) (by omega), lb_cl (by omega)]
    have w0 : (mb_add (upd (upd T 8 (nI (mb_dx x))) 8 (nI (mb_dx (mb_dx x)))) (51 + 6 * p) (T 0)) 0 = T 0 := by rw [lb_an (by omega), g0]
    constructor
    · congr 1
      show upd (upd (mb_add (upd (upd T 8 (nI (mb_dx x))) 8 (nI (mb_dx (mb_dx x)))) (51 + 6 * p) ((upd (upd T 8 (nI (mb_dx x))) 8 (nI (mb_dx (mb_dx x)))) 0)) 10 _) _ _ = _
      rw [g0]; unfold mb_add at w0 ⊢; rw [w0]
    · have b1 := g1.purse (p := p) (by omega)
      have bb := h.bB
      have wg := h.wg
      have hs : ((upd (upd T 8 (nI (mb_dx x))) 8 (nI (mb_dx (mb_dx x)))) (51 + 6 * p) + T 0).toInt = ((upd (upd T 8 (nI (mb_dx x))) 8 (nI (mb_dx (mb_dx x)))) (51 + 6 * p)).toInt + (T 0).toInt := lb_add_toInt (by omega) (by omega)
      have hps := g1.ps
      have g2 : mb_I P t (B + 99) C A (mb_add (upd (upd T 8 (nI (mb_dx x))) 8 (nI (mb_dx (mb_dx x)))) (51 + 6 * p) (T 0)) := g1.setPurse hp (by rw [hs]; omega) (by rw [hs]; omega) hB
      have g3 : mb_I P t (B + 99) C A (mb_add (mb_add (upd (upd T 8 (nI (mb_dx x))) 8 (nI (mb_dx (mb_dx x)))) (51 + 6 * p) (T 0)) 10 (T 0)) := g2.setNo (Or.inr rfl) _
      have := g3.setPlace hp (Nat.mod_lt (y + mb_dv x + mb_dv (mb_dx x)) (show 0 < 20 by omega))
      rw [show 52 + 6 * p = 51 + 6 * p + 1 by omega] at this
      exact this
theorem lb_goes0 {P t : Nat} {B C A : Int} {S : ms_T} {T : Nat → Int32} (h : mb_I P t B C A T) (hR : RB S T) {p : Nat} (hp : p < P) : ∃ S', f0_move (nI p) S = some S' ∧ RB S' (mb_goes T p) := by
  have hP := h.P4
  obtain ⟨x, hx, hx2⟩ := h.dr
  obtain ⟨y, hy, hy2⟩ := h.pl' (p := p) (by omega)
  have d1 := lb_dv x
  have d2 := lb_dv (mb_dx x)
  have e : mb_goes T p = mb_goesX T p x y := by
    unfold mb_goes; rw [hx, hy2, lb_cl (by omega), lb_cl (by omega)]
  rw [e]
  have z := hR.z
  have r1 := hR.draw (nI (mb_dx x))
  have r2 := r1.draw (nI (mb_dx (mb_dx x)))
  generalize hS1 : ms_set S 12 (upd (S 12) 2 (nI (mb_dx x))) = S1 at r1 r2
  generalize hS2 : ms_set S1 12 (upd (S1 12) 2 (nI (mb_dx (mb_dx x)))) = S2 at r2
  generalize hT2 : upd (upd T 8 (nI (mb_dx x))) 8 (nI (mb_dx (mb_dx x))) = T2 at r2
  have a1 : f0_throwDie S = some (nI (mb_dv x), S1) := by rw [lb_die0 (z.2.2.1.trans hx) hx2, hS1]
  have a2 : f0_throwDie S1 = some (nI (mb_dv (mb_dx x)), S2) := by
    rw [lb_die0 (x := mb_dx x) (by rw [r1.z.2.2.1]; exact lb_us _ _ _) (lb_dx x), hS2]
  have a3 : S1 7 p = nI y := by
    rw [r1.p (k := 1) (i := p) (by omega) (by omega), lb_un (by omega), hy2]
  have a4 : S2 5 0 = T 0 := by rw [r2.g (by omega), ← hT2, lb_un (by omega), lb_un (by omega)]
  unfold f0_move
  rw [a1, lb_bd]
  show ∃ S', fo_bd (f6_at 0 4 (nI p) (S1 7)) _ = some S' ∧ _
  rw [lb_at (by omega) (by omega), lb_bd, a3]
  show ∃ S', fo_bd (f0_throwDie S1) _ = some S' ∧ _
  rw [a2, lb_bd]
  show ∃ S', fo_bd (f6_at 0 5 (nI 0) (S2 5)) _ = some S' ∧ _
  rw [lb_at (by omega) (by omega), lb_bd, a4]
  show ∃ S', fo_bd (f6_write 0 4 (nI p) (((nI y + nI (mb_dv x)) + nI (mb_dv (mb_dx x))) - ((nI y + nI (mb_dv x)) + nI (mb_dv (mb_dx x))) / nI 20 * nI 20) (S2 7)) (fun q45 => fo_bd (f6_add 0 4 (nI p) (((nI y + nI (mb_dv x)) + nI (mb_dv (mb_dx x))) / nI 20 * T 0) (ms_set S2 7 q45 6)) (fun q55 => some (ms_set (ms_set (ms_set S2 7 q45) 6 q55) 12 (upd (ms_set (ms_set S2 7 q45) 6 q55 12) 5 (ms_set (ms_set S2 7 q45) 6 q55 12 5 + ((nI y + nI (mb_dv x)) + nI (mb_dv (mb_dx x))) / nI 20 * T 0))))) = some S' ∧ _
  rw [lb_add, lb_add, lb_mod (by omega) (by omega), lb_div (by omega) (by omega), lb_write (by omega) (by omega), lb_bd, lb_radd (by omega) (by omega), lb_bd]
  have r3 := r2.setP (k := 1) (i := p) (by omega) (by omega) (nI ((y + mb_dv x + mb_dv (mb_dx x)) % 20))
  have r4 := r3.addP (k := 0) (i := p) (by omega) (by omega) (nI ((y + mb_dv x + mb_dv (mb_dx x)) / 20) * T 0)
  have r5 := r4.setZ (i := 5) (by omega) (ms_set (ms_set S2 7 (upd (S2 7) p (nI ((y + mb_dv x + mb_dv (mb_dx x)) % 20)))) 6 (upd (ms_set S2 7 (upd (S2 7) p (nI ((y + mb_dv x + mb_dv (mb_dx x)) % 20))) 6) p (ms_set S2 7 (upd (S2 7) p (nI ((y + mb_dv x + mb_dv (mb_dx x)) % 20))) 6 p + nI ((y + mb_dv x + mb_dv (mb_dx x)) / 20) * T 0)) 12 5 + nI ((y + mb_dv x + mb_dv (mb_dx x)) / 20) * T 0)
  refine ⟨_, rfl, r5.congr (fun i hi => ?_)⟩
  have z5 := r4.z.2.2.2.2.2
  rw [show ms_set (ms_set S2 7 (upd (S2 7) p (nI ((y + mb_dv x + mb_dv (mb_dx x)) % 20)))) 6 (upd (ms_set S2 7 (upd (S2 7) p (nI ((y + mb_dv x + mb_dv (mb_dx x)) % 20))) 6) p (ms_set S2 7 (upd (S2 7) p (nI ((y + mb_dv x + mb_dv (mb_dx x)) % 20))) 6 p + nI ((y + mb_dv x + mb_dv (mb_dx x)) / 20) * T 0)) 12 5 = _ from z5]
  rw [show rb_ix 12 5 = 10 from rfl]
  unfold mb_goesX
  rw [hT2]
  simp only [Nat.add_zero]
  by_cases hc : y + mb_dv x + mb_dv (mb_dx x) < 20
  · rw [if_pos hc, Nat.mod_eq_of_lt hc, Nat.div_eq_of_lt hc, show nI 0 * T 0 = 0 from Int32.zero_mul, Int32.add_zero, lb_ui]
    unfold mb_add
    rw [Int32.add_zero, lb_ui]
  · have d1 : (y + mb_dv x + mb_dv (mb_dx x)) / 20 = 1 := by omega
    rw [if_neg hc, d1, show nI 1 * T 0 = T 0 from Int32.one_mul _]
    unfold mb_add
    by_cases i1 : i = 51 + 6 * p + 1
    · subst i1; simp (disch := omega) only [lb_us, lb_un]
    · by_cases i2 : i = 10
      · subst i2; simp (disch := omega) only [lb_us, lb_un]
      · by_cases i3 : i = 51 + 6 * p
        · subst i3; simp (disch := omega) only [lb_us, lb_un]
        · simp (disch := omega) only [lb_us, lb_un]
